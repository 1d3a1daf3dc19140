/-! ===== the class: odds, meanIn, as far as their answers go ===== -/
theorem ha_fl {t len : Nat} {v : Int64} {mem : (Nat → Int64) → fx_M} (hm : ∀ f, (mem f)[t]? = some (.inr (.long, len, .inr (.inl f)))) (hs : ∀ f f', (mem f).set t (.inr (.long, len, .inr (.inl f'))) = mem f') (hl : len < 2147483648) (f : Nat → Int64) : hr_T 1 387 [.ref t, .long v] (mem f) none (mem (tc_f f len v)) := by
  have loop : ∀ (r k : Nat), k + r = len → hr_R 0 gk_m387 6 [(4, .int (nI len)), (3, .int (nI k)), (0, .ref t), (1, .long v)] [] (mem (tc_f f k v)) (none, mem (tc_f f len v)) := by
    intro r
    induction r with
    | zero =>
      intro k hk
      obtain rfl : k = len := by omega
      refine hr_s 3 (pc' := cond (fx_cb .ge (nI k) (nI k)) 22 12) (lc' := [(4, .int (nI k)), (3, .int (nI k)), (0, .ref t), (1, .long v)]) (stk' := []) (mem' := mem (tc_f f k v)) (fun _ _ _ => rfl) ?_
      rw [show (fx_cb .ge (nI k) (nI k)) = true from cb_geT (a := k) (b := k) (by omega) (by omega) (by omega)]
      exact hr_ret (by rfl) (by rfl) (by rfl)
    | succ r ih =>
      intro k hk
      refine hr_s 3 (pc' := cond (fx_cb .ge (nI k) (nI len)) 22 12) (lc' := [(4, .int (nI len)), (3, .int (nI k)), (0, .ref t), (1, .long v)]) (stk' := []) (mem' := mem (tc_f f k v)) (fun _ _ _ => rfl) ?_
      rw [show (fx_cb .ge (nI k) (nI len)) = false from cb_geF (a := k) (b := len) (by omega) (by omega) (by omega)]
      dsimp only [cond]
      refine hr_s 3 (pc' := 15) (lc' := [(4, .int (nI len)), (3, .int (nI k)), (0, .ref t), (1, .long v)]) (stk' := [.long v, .int (nI k), .ref t]) (mem' := mem (tc_f f k v)) (fun _ _ _ => rfl) ?_
      refine hr_stL (by rfl) (hm _) (fx_inN (i := k) (by omega) hl) (hs _ _) ?_
      rw [nI_clamp (by omega), tc_fs]
      refine hr_s 2 (pc' := 6) (lc' := [(3, .int (nI k + 1)), (4, .int (nI len)), (0, .ref t), (1, .long v)]) (stk' := []) (mem' := mem (tc_f f (k + 1) v)) (fun _ _ _ => rfl) ?_
      rw [show nI k + 1 = nI (k + 1) from nI_add k 1]
      exact hr_w (lc' := [(4, .int (nI len)), (3, .int (nI (k + 1))), (0, .ref t), (1, .long v)]) ⟨rfl, rfl, rfl, rfl, trivial⟩ (by show List.Nodup [4, 3, 0, 1]; decide) (by show List.Nodup [3, 4, 0, 1]; decide) (ih (k + 1) (by omega))
  refine hr_meth (by rfl) (by rfl) ?_
  refine hr_s 3 (pc' := 3) (lc' := [(3, .int 0), (0, .ref t), (1, .long v)]) (stk' := [.ref t]) (mem' := mem f) (fun _ _ _ => rfl) ?_
  refine hr_len (by rfl) (hm f) ?_
  refine hr_s 1 (pc' := 6) (lc' := [(4, .int (nI len)), (3, .int 0), (0, .ref t), (1, .long v)]) (stk' := []) (mem' := mem f) (fun _ _ _ => rfl) ?_
  have h0 := loop len 0 (by omega)
  rw [tc_f0] at h0
  exact h0
theorem he_lrem {k : Nat} {M : rk_M2} {pc : Nat} {x y : Int64} {lc : fx_L} {r : List Value} {mem : fx_M} {F : Option Value × fx_M → Prop} (hat : tk_at M.1 pc = some (pc, .lrem, 1)) (hy : ¬ y = 0) (kk : he_R k M (pc + 1) lc (.long (x - x / y * y) :: r) mem F) : he_R k M pc lc (.long y :: .long x :: r) mem F := by
  refine he_s 1 (pc' := pc + 1) (lc' := lc) (stk' := .long (x - x / y * y) :: r) (mem' := mem) (fun N d n => ?_) kk
  refine hx_one (z := (pc + 1, lc, .long (x - x / y * y) :: r, mem)) hat rfl rfl ?_
  show (match (if y = 0 then none else some (pc + 1, lc, Value.long (x - x / y * y) :: r) : fx_R) with
    | some z => some (z.1, z.2.1, z.2.2, mem)
    | none => none) = _
  rw [if_neg hy]
theorem he_ldiv {k : Nat} {M : rk_M2} {pc : Nat} {x y : Int64} {lc : fx_L} {r : List Value} {mem : fx_M} {F : Option Value × fx_M → Prop} (hat : tk_at M.1 pc = some (pc, .ldiv, 1)) (hy : ¬ y = 0) (kk : he_R k M (pc + 1) lc (.long (x / y) :: r) mem F) : he_R k M pc lc (.long y :: .long x :: r) mem F := by
  refine he_s 1 (pc' := pc + 1) (lc' := lc) (stk' := .long (x / y) :: r) (mem' := mem) (fun N d n => ?_) kk
  refine hx_one (z := (pc + 1, lc, .long (x / y) :: r, mem)) hat rfl rfl ?_
  show (match (if y = 0 then none else some (pc + 1, lc, Value.long (x / y) :: r) : fx_R) with
    | some z => some (z.1, z.2.1, z.2.2, mem)
    | none => none) = _
  rw [if_neg hy]
theorem tc_ne0 {x : Int64} (h : fx_cb .ne (lg_cmp x 0) 0 = true) : ¬ x = 0 := fun e => by
  subst e
  exact absurd h (by decide)
/-- ICE's number -/
abbrev iceN (n s c : Int32) : Prop := inN n c ∧ (s >>> (c &&& 31)) &&& 1 = 0
/-- days, and how many sixteenths -/
abbrev dyN (d f t : Int32) : Prop := (0 ≤ d.toInt ∧ d.toInt ≤ 10) ∧ (0 ≤ f.toInt ∧ f.toInt ≤ 16) ∧ 0 ≤ t.toInt ∧ t.toInt ≤ 16 - f.toInt
section CDAY
variable {g : Nat → Nat → Int32} {l : Nat → Nat → Int64} {a : Nat → Nat → Int32} {b : Nat → Nat → Int64} {R : (Nat → fx_E) × fx_M}
theorem hd_deny {x : Int32} : hr_T 1 189 [.ref 0, .int x] (cx g l a b R) (some (.int 0)) (cx (fm_u g 0 0 x) l a b R) := hl_deny
theorem hd_agree : hr_T 1 188 [.ref 0] (cx g l a b R) (some (.int 1)) (cx (fm_u g 0 0 0) l a b R) := hl_agree
theorem hd_cell {c : Int32} : hr_T 1 34 [.ref 15, .int c] (cx g l a b R) (some (.int (if inN (g 15 8) c then 1 else 0))) (cx g l a b R) := hl_cell
theorem hd_ice {c : Int32} : hr_T 2 36 [.ref 15, .int c] (cx g l a b R) (some (.int (if iceN (g 15 8) (g 15 9) c then 1 else 0))) (cx g l a b R) := by
  refine hr_meth (by rfl) (by rfl) ?_
  refine hr_s 2 (pc' := 2) (lc' := [(0, .ref 15), (1, .int c)]) (stk' := [.int c, .ref 15]) (mem' := cx g l a b R) (fun _ _ _ => rfl) ?_
  refine hr_ivV (hd_cell (c := c)) (by omega) (by rfl) (by rfl) (by rfl) (by rfl) (by rfl) (by rfl) ?_
  by_cases h1 : inN (g 15 8) c
  · rw [if_pos h1]
    refine hr_s 1 (pc' := cond (fx_cb .eq 1 0) 23 8) (lc' := [(0, .ref 15), (1, .int c)]) (stk' := []) (mem' := cx g l a b R) (fun _ _ _ => rfl) ?_
    rw [show fx_cb .eq 1 0 = false from by decide]
    dsimp only [cond]
    refine hr_s 6 (pc' := 16) (lc' := [(0, .ref 15), (1, .int c)]) (stk' := [.int ((g 15 9 >>> (c &&& 31)) &&& 1)]) (mem' := cx g l a b R) (fun _ _ _ => rfl) ?_
    by_cases h2 : ((g 15 9 >>> (c &&& 31)) &&& 1) = 0
    · rw [if_pos (show iceN (g 15 8) (g 15 9) c from ⟨h1, h2⟩)]
      refine hr_s 1 (pc' := cond (fx_cb .ne ((g 15 9 >>> (c &&& 31)) &&& 1) 0) 23 19) (lc' := [(0, .ref 15), (1, .int c)]) (stk' := []) (mem' := cx g l a b R) (fun _ _ _ => rfl) ?_
      rw [show fx_cb .ne ((g 15 9 >>> (c &&& 31)) &&& 1) 0 = false from by rw [h2]; decide]
      dsimp only [cond]
      refine hr_s 2 (pc' := 24) (lc' := [(0, .ref 15), (1, .int c)]) (stk' := [.int 1]) (mem' := cx g l a b R) (fun _ _ _ => rfl) ?_
      exact hr_ret (by rfl) (by rfl) (by rfl)
    · rw [if_neg (show ¬ iceN (g 15 8) (g 15 9) c from fun z => h2 z.2)]
      refine hr_s 1 (pc' := cond (fx_cb .ne ((g 15 9 >>> (c &&& 31)) &&& 1) 0) 23 19) (lc' := [(0, .ref 15), (1, .int c)]) (stk' := []) (mem' := cx g l a b R) (fun _ _ _ => rfl) ?_
      rw [show fx_cb .ne ((g 15 9 >>> (c &&& 31)) &&& 1) 0 = true from by show (!decide (_ = (0 : Int32))) = true; rw [decide_eq_false h2]; rfl]
      dsimp only [cond]
      refine hr_s 1 (pc' := 24) (lc' := [(0, .ref 15), (1, .int c)]) (stk' := [.int 0]) (mem' := cx g l a b R) (fun _ _ _ => rfl) ?_
      exact hr_ret (by rfl) (by rfl) (by rfl)
  · rw [if_neg h1, if_neg (show ¬ iceN (g 15 8) (g 15 9) c from fun z => h1 z.1)]
    refine hr_s 1 (pc' := cond (fx_cb .eq 0 0) 23 8) (lc' := [(0, .ref 15), (1, .int c)]) (stk' := []) (mem' := cx g l a b R) (fun _ _ _ => rfl) ?_
    rw [show fx_cb .eq 0 0 = true from by decide]
    dsimp only [cond]
    refine hr_s 1 (pc' := 24) (lc' := [(0, .ref 15), (1, .int c)]) (stk' := [.int 0]) (mem' := cx g l a b R) (fun _ _ _ => rfl) ?_
    exact hr_ret (by rfl) (by rfl) (by rfl)
theorem hd_can {d f t : Int32} {mem : fx_M} : hr_T 1 17 [.int d, .int f, .int t] mem (some (.int (if dyN d f t then 1 else 0))) mem := by
  refine hr_meth (by rfl) (by rfl) ?_
  have bad : hr_R 0 gk_m17 36 [(0, .int d), (1, .int f), (2, .int t)] [] mem (some (.int 0), mem) := by
    refine hr_s 1 (pc' := 37) (lc' := [(0, .int d), (1, .int f), (2, .int t)]) (stk' := [.int 0]) (mem' := mem) (fun _ _ _ => rfl) ?_
    exact hr_ret (by rfl) (by rfl) (by rfl)
  refine hr_s 1 (pc' := 1) (lc' := [(0, .int d), (1, .int f), (2, .int t)]) (stk' := [.int d]) (mem' := mem) (fun _ _ _ => rfl) ?_
  refine hr_s 1 (pc' := cond (fx_cb .lt d 0) 36 4) (lc' := [(0, .int d), (1, .int f), (2, .int t)]) (stk' := []) (mem' := mem) (fun _ _ _ => rfl) ?_
  cases h1 : fx_cb .lt d 0
  · have p1 : (0 : Int) ≤ d.toInt := tc_ltF h1
    refine hr_s 2 (pc' := 7) (lc' := [(0, .int d), (1, .int f), (2, .int t)]) (stk' := [.int 10, .int d]) (mem' := mem) (fun _ _ _ => rfl) ?_
    refine hr_s 1 (pc' := cond (fx_cb .gt d 10) 36 10) (lc' := [(0, .int d), (1, .int f), (2, .int t)]) (stk' := []) (mem' := mem) (fun _ _ _ => rfl) ?_
    cases h2 : fx_cb .gt d 10
    · have p2 : d.toInt ≤ (10 : Int) := tc_gtF h2
      refine hr_s 1 (pc' := 11) (lc' := [(0, .int d), (1, .int f), (2, .int t)]) (stk' := [.int f]) (mem' := mem) (fun _ _ _ => rfl) ?_
      refine hr_s 1 (pc' := cond (fx_cb .lt f 0) 36 14) (lc' := [(0, .int d), (1, .int f), (2, .int t)]) (stk' := []) (mem' := mem) (fun _ _ _ => rfl) ?_
      cases h3 : fx_cb .lt f 0
      · have p3 : (0 : Int) ≤ f.toInt := tc_ltF h3
        refine hr_s 2 (pc' := 17) (lc' := [(0, .int d), (1, .int f), (2, .int t)]) (stk' := [.int 16, .int f]) (mem' := mem) (fun _ _ _ => rfl) ?_
        refine hr_s 1 (pc' := cond (fx_cb .gt f 16) 36 20) (lc' := [(0, .int d), (1, .int f), (2, .int t)]) (stk' := []) (mem' := mem) (fun _ _ _ => rfl) ?_
        cases h4 : fx_cb .gt f 16
        · have p4 : f.toInt ≤ (16 : Int) := tc_gtF h4
          refine hr_s 1 (pc' := 21) (lc' := [(0, .int d), (1, .int f), (2, .int t)]) (stk' := [.int t]) (mem' := mem) (fun _ _ _ => rfl) ?_
          refine hr_s 1 (pc' := cond (fx_cb .lt t 0) 36 24) (lc' := [(0, .int d), (1, .int f), (2, .int t)]) (stk' := []) (mem' := mem) (fun _ _ _ => rfl) ?_
          cases h5 : fx_cb .lt t 0
          · have p5 : (0 : Int) ≤ t.toInt := tc_ltF h5
            have e : (16 - f : Int32).toInt = 16 - f.toInt := tc_sub p3 p4
            refine hr_s 4 (pc' := 29) (lc' := [(0, .int d), (1, .int f), (2, .int t)]) (stk' := [.int (16 - f), .int t]) (mem' := mem) (fun _ _ _ => rfl) ?_
            refine hr_s 1 (pc' := cond (fx_cb .gt t (16 - f)) 36 32) (lc' := [(0, .int d), (1, .int f), (2, .int t)]) (stk' := []) (mem' := mem) (fun _ _ _ => rfl) ?_
            cases h6 : fx_cb .gt t (16 - f)
            · have p6 : t.toInt ≤ (16 - f : Int32).toInt := tc_gtF h6
              rw [if_pos (show dyN d f t from ⟨⟨p1, p2⟩, ⟨p3, p4⟩, p5, by omega⟩)]
              refine hr_s 2 (pc' := 37) (lc' := [(0, .int d), (1, .int f), (2, .int t)]) (stk' := [.int 1]) (mem' := mem) (fun _ _ _ => rfl) ?_
              exact hr_ret (by rfl) (by rfl) (by rfl)
            · have q : (16 - f : Int32).toInt < t.toInt := tc_gt h6
              rw [if_neg (show ¬ dyN d f t from fun z => by obtain ⟨⟨z1, z2⟩, ⟨z3, z4⟩, z5, z6⟩ := z; omega)]
              exact bad
          · have q : t.toInt < (0 : Int) := tc_lt h5
            rw [if_neg (show ¬ dyN d f t from fun z => by obtain ⟨⟨z1, z2⟩, ⟨z3, z4⟩, z5, z6⟩ := z; omega)]
            exact bad
        · have q : (16 : Int) < f.toInt := tc_gt h4
          rw [if_neg (show ¬ dyN d f t from fun z => by obtain ⟨⟨z1, z2⟩, ⟨z3, z4⟩, z5, z6⟩ := z; omega)]
          exact bad
      · have q : f.toInt < (0 : Int) := tc_lt h3
        rw [if_neg (show ¬ dyN d f t from fun z => by obtain ⟨⟨z1, z2⟩, ⟨z3, z4⟩, z5, z6⟩ := z; omega)]
        exact bad
    · have q : (10 : Int) < d.toInt := tc_gt h2
      rw [if_neg (show ¬ dyN d f t from fun z => by obtain ⟨⟨z1, z2⟩, ⟨z3, z4⟩, z5, z6⟩ := z; omega)]
      exact bad
  · have q : d.toInt < (0 : Int) := tc_lt h1
    rw [if_neg (show ¬ dyN d f t from fun z => by obtain ⟨⟨z1, z2⟩, ⟨z3, z4⟩, z5, z6⟩ := z; omega)]
    exact bad
theorem hd_whole {d : Int32} {mem : fx_M} : hr_T 1 18 [.int d] mem (some (.long ((1 : Int64) <<< ((4 * d : Int32).toInt64 &&& 63)))) mem := by
  refine hr_meth (by rfl) (by rfl) ?_
  refine hr_s 5 (pc' := 5) (lc' := [(0, .int d)]) (stk' := [.long ((1 : Int64) <<< ((4 * d : Int32).toInt64 &&& 63))]) (mem' := mem) (fun _ _ _ => rfl) ?_
  exact hr_ret (by rfl) (by rfl) (by rfl)
theorem hd_val {x : Int32} : hr_T 1 20 [.ref 185, .int x] (cx g l a b R) (some (.int (g 185 2 + x - 10))) (cx g l a b R) := by
  refine hr_meth (by rfl) (by rfl) ?_
  refine hr_s 6 (pc' := 9) (lc' := [(0, .ref 185), (1, .int x)]) (stk' := [.int (g 185 2 + x - 10)]) (mem' := cx g l a b R) (fun _ _ _ => rfl) ?_
  exact hr_ret (by rfl) (by rfl) (by rfl)
set_option maxRecDepth 8000 in
set_option maxHeartbeats 4000000 in
theorem hd_spread {c f t : Int32} {D : Nat} (hD : D ≤ 10) : ∃ b' : Nat → Nat → Int64, hr_T 2 19 [.ref 185, .int c, .int (nI D), .int f, .int t] (cx g l a b R) none (cx (fm_u g 185 2 c) l a b' R) ∧ ∀ j, j ≠ 186 → j ≠ 187 → b' j = b j := by
  suffices h : ∃ (v : Option Value) (mem' : fx_M), (fun R1 => ∃ b' : Nat → Nat → Int64, (∀ j, j ≠ 186 → j ≠ 187 → b' j = b j) ∧ R1 = (none, cx (fm_u g 185 2 c) l a b' R)) (v, mem') ∧ hr_T 2 19 [.ref 185, .int c, .int (nI D), .int f, .int t] (cx g l a b R) v mem' by
    obtain ⟨v, mem', ⟨b', h1, hR1⟩, h2⟩ := h
    cases hR1
    exact ⟨b', h2, h1⟩
  refine he_meth (f := 19) (as := [.ref 185, .int c, .int (nI D), .int f, .int t]) (F := fun R1 => ∃ b' : Nat → Nat → Int64, (∀ j, j ≠ 186 → j ≠ 187 → b' j = b j) ∧ R1 = (none, cx (fm_u g 185 2 c) l a b' R)) (M := gk_m19) (by rfl) (by rfl) ?_
  refine he_s 6 (pc' := 10) (lc' := [(0, .ref 185), (1, .int c), (2, .int (nI D)), (3, .int f), (4, .int t)]) (stk' := [.long 0, .ref 186]) (mem' := cx (fm_u g 185 2 c) l a b R) (fun _ _ _ => rfl) ?_
  refine he_ivS (show hr_T 1 387 [.ref 186, .long 0] (cx (fm_u g 185 2 c) l a b R) none (cx (fm_u g 185 2 c) l a (fm_uf b 186 (tc_f (b 186) 21 0)) R) from ha_fl (t := 186) (len := 21) (mem := fun f => cx (fm_u g 185 2 c) l a (fm_uf b 186 f) R) (fun _ => rfl) (fun _ _ => rfl) (by decide) _) (by omega) (by rfl) (by rfl) (by rfl) (by rfl) (by rfl) ?_
  obtain ⟨be101, hbe101, ebe101⟩ : ∃ z : Nat → Nat → Int64, (∀ j, j ≠ 186 → j ≠ 187 → z j = b j) ∧ (fm_uf b 186 (tc_f (b 186) 21 0)) = z := ⟨_, fun j p1 p2 => (fm_uf_n p1), rfl⟩
  rw [ebe101]
  refine he_s 4 (pc' := 20) (lc' := [(0, .ref 185), (1, .int c), (2, .int (nI D)), (3, .int f), (4, .int t)]) (stk' := [.long 1, .int 10, .ref 186]) (mem' := cx (fm_u g 185 2 c) l a be101 R) (fun _ _ _ => rfl) ?_
  refine he_stL (mem' := cx (fm_u g 185 2 c) l a (fm_uf be101 186 (vp_updL (be101 186) (10 : Int32).toNatClampNeg 1)) R) (by rfl) (by rfl) (fx_inN (i := 10) (by omega) (by omega)) (by rfl) ?_
  rw [show Int32.toNatClampNeg (10) = 10 from rfl]
  obtain ⟨be102, hbe102, ebe102⟩ : ∃ z : Nat → Nat → Int64, (∀ j, j ≠ 186 → j ≠ 187 → z j = b j) ∧ (fm_uf be101 186 (vp_updL (be101 186) 10 1)) = z := ⟨_, fun j p1 p2 => (fm_uf_n p1).trans (hbe101 j p1 p2), rfl⟩
  rw [ebe102]
  refine he_s 2 (pc' := 24) (lc' := [(5, .int 0), (0, .ref 185), (1, .int c), (2, .int (nI D)), (3, .int f), (4, .int t)]) (stk' := []) (mem' := cx (fm_u g 185 2 c) l a be102 R) (fun _ _ _ => rfl) ?_
  have loop103 : ∀ (r i103 : Nat), i103 + r = D → ∀ b103 : Nat → Nat → Int64, (∀ j, j ≠ 186 → j ≠ 187 → b103 j = b j) → he_R 1 gk_m19 24 [(5, .int (nI i103)), (0, .ref 185), (1, .int c), (2, .int (nI D)), (3, .int f), (4, .int t)] [] (cx (fm_u g 185 2 c) l a b103 R) (fun R1 => ∃ b' : Nat → Nat → Int64, (∀ j, j ≠ 186 → j ≠ 187 → b' j = b j) ∧ R1 = (none, cx (fm_u g 185 2 c) l a b' R)) := by
    intro r
    induction r with
    | zero =>
      intro i103 hi103 b103 hb103
      obtain rfl : D = i103 := by omega
      refine he_s 2 (pc' := 27) (lc' := [(5, .int (nI D)), (0, .ref 185), (1, .int c), (2, .int (nI D)), (3, .int f), (4, .int t)]) (stk' := [.int (nI D), .int (nI D)]) (mem' := cx (fm_u g 185 2 c) l a b103 R) (fun _ _ _ => rfl) ?_
      refine he_s 1 (pc' := cond (fx_cb .ge (nI D) (nI D)) 197 30) (lc' := [(5, .int (nI D)), (0, .ref 185), (1, .int c), (2, .int (nI D)), (3, .int f), (4, .int t)]) (stk' := []) (mem' := cx (fm_u g 185 2 c) l a b103 R) (fun _ _ _ => rfl) ?_
      rw [show (fx_cb .ge (nI D) (nI D)) = true from cb_geT (a := D) (b := D) (by omega) (by omega) (by omega)]
      dsimp only [cond]
      exact he_ret ⟨_, hb103, rfl⟩ (by rfl) (by rfl) (by rfl)
    | succ r ih103 =>
      intro i103 hi103 b103 hb103
      have hl103 : i103 < D := by omega
      refine he_s 2 (pc' := 27) (lc' := [(5, .int (nI i103)), (0, .ref 185), (1, .int c), (2, .int (nI D)), (3, .int f), (4, .int t)]) (stk' := [.int (nI D), .int (nI i103)]) (mem' := cx (fm_u g 185 2 c) l a b103 R) (fun _ _ _ => rfl) ?_
      refine he_s 1 (pc' := cond (fx_cb .ge (nI i103) (nI D)) 197 30) (lc' := [(5, .int (nI i103)), (0, .ref 185), (1, .int c), (2, .int (nI D)), (3, .int f), (4, .int t)]) (stk' := []) (mem' := cx (fm_u g 185 2 c) l a b103 R) (fun _ _ _ => rfl) ?_
      rw [show (fx_cb .ge (nI i103) (nI D)) = false from cb_geF (a := i103) (b := D) (by omega) (by omega) (by omega)]
      dsimp only [cond]
      refine he_s 3 (pc' := 35) (lc' := [(5, .int (nI i103)), (0, .ref 185), (1, .int c), (2, .int (nI D)), (3, .int f), (4, .int t)]) (stk' := [.long 0, .ref 187]) (mem' := cx (fm_u g 185 2 c) l a b103 R) (fun _ _ _ => rfl) ?_
      refine he_ivS (show hr_T 1 387 [.ref 187, .long 0] (cx (fm_u g 185 2 c) l a b103 R) none (cx (fm_u g 185 2 c) l a (fm_uf b103 187 (tc_f (b103 187) 21 0)) R) from ha_fl (t := 187) (len := 21) (mem := fun f => cx (fm_u g 185 2 c) l a (fm_uf b103 187 f) R) (fun _ => rfl) (fun _ _ => rfl) (by decide) _) (by omega) (by rfl) (by rfl) (by rfl) (by rfl) (by rfl) ?_
      obtain ⟨be104, hbe104, ebe104⟩ : ∃ z : Nat → Nat → Int64, (∀ j, j ≠ 186 → j ≠ 187 → z j = b j) ∧ (fm_uf b103 187 (tc_f (b103 187) 21 0)) = z := ⟨_, fun j p1 p2 => (fm_uf_n p2).trans (hb103 j p1 p2), rfl⟩
      rw [ebe104]
      refine he_s 2 (pc' := 41) (lc' := [(6, .int 0), (5, .int (nI i103)), (0, .ref 185), (1, .int c), (2, .int (nI D)), (3, .int f), (4, .int t)]) (stk' := []) (mem' := cx (fm_u g 185 2 c) l a be104 R) (fun _ _ _ => rfl) ?_
      have loop105 : ∀ (r i105 : Nat), i105 + r = 21 → ∀ b105 : Nat → Nat → Int64, (∀ j, j ≠ 186 → j ≠ 187 → b105 j = b j) → he_R 1 gk_m19 41 [(6, .int (nI i105)), (5, .int (nI i103)), (0, .ref 185), (1, .int c), (2, .int (nI D)), (3, .int f), (4, .int t)] [] (cx (fm_u g 185 2 c) l a b105 R) (fun R1 => ∃ b' : Nat → Nat → Int64, (∀ j, j ≠ 186 → j ≠ 187 → b' j = b j) ∧ R1 = (none, cx (fm_u g 185 2 c) l a b' R)) := by
        intro r
        induction r with
        | zero =>
          intro i105 hi105 b105 hb105
          obtain rfl : i105 = 21 := by omega
          refine he_s 2 (pc' := 45) (lc' := [(6, .int (nI 21)), (5, .int (nI i103)), (0, .ref 185), (1, .int c), (2, .int (nI D)), (3, .int f), (4, .int t)]) (stk' := [.int 20, .int (nI 21)]) (mem' := cx (fm_u g 185 2 c) l a b105 R) (fun _ _ _ => rfl) ?_
          refine he_s 1 (pc' := cond (fx_cb .gt (nI 21) 20) 176 48) (lc' := [(6, .int (nI 21)), (5, .int (nI i103)), (0, .ref 185), (1, .int c), (2, .int (nI D)), (3, .int f), (4, .int t)]) (stk' := []) (mem' := cx (fm_u g 185 2 c) l a b105 R) (fun _ _ _ => rfl) ?_
          rw [show (fx_cb .gt (nI 21) 20) = true from cb_gtT (a := 21) (b := 20) (by omega) (by omega) (by omega)]
          dsimp only [cond]
          refine he_s 7 (pc' := 188) (lc' := [(6, .int (nI 21)), (5, .int (nI i103)), (0, .ref 185), (1, .int c), (2, .int (nI D)), (3, .int f), (4, .int t)]) (stk' := [.int 21, .int 0, .ref 186, .int 0, .ref 187]) (mem' := cx (fm_u g 185 2 c) l a b105 R) (fun _ _ _ => rfl) ?_
          refine he_cpL (mem' := cx (fm_u g 185 2 c) l a (fm_uf b105 186 (va_cpy (b105 187) (b105 186) 0 0 21)) R) (by rfl) (by rfl) (by rfl) (by rfl) (by rfl) (by decide) (by rfl) ?_
          obtain ⟨be106, hbe106, ebe106⟩ : ∃ z : Nat → Nat → Int64, (∀ j, j ≠ 186 → j ≠ 187 → z j = b j) ∧ (fm_uf b105 186 (va_cpy (b105 187) (b105 186) 0 0 21)) = z := ⟨_, fun j p1 p2 => (fm_uf_n p1).trans (hb105 j p1 p2), rfl⟩
          rw [ebe106]
          refine he_s 1 (pc' := 194) (lc' := [(5, .int ((nI i103) + 1)), (6, .int (nI 21)), (0, .ref 185), (1, .int c), (2, .int (nI D)), (3, .int f), (4, .int t)]) (stk' := []) (mem' := cx (fm_u g 185 2 c) l a be106 R) (fun _ _ _ => rfl) ?_
          rw [show ((nI i103) + 1 : Int32) = nI (i103 + 1) from by simp only [show (1 : Int32) = nI 1 from rfl, nI_add, fm_mul]]
          refine he_s 1 (pc' := fx_to 194 (-170)) (lc' := [(5, .int (nI (i103 + 1))), (6, .int (nI 21)), (0, .ref 185), (1, .int c), (2, .int (nI D)), (3, .int f), (4, .int t)]) (stk' := []) (mem' := cx (fm_u g 185 2 c) l a be106 R) (fun _ _ _ => rfl) ?_
          rw [show fx_to 194 (-170) = 24 from by decide]
          refine he_w (lc' := [(5, .int (nI (i103 + 1))), (0, .ref 185), (1, .int c), (2, .int (nI D)), (3, .int f), (4, .int t)]) ⟨rfl, rfl, rfl, rfl, rfl, rfl, trivial⟩ (by show List.Nodup [5, 0, 1, 2, 3, 4]; decide) (by show List.Nodup [5, 6, 0, 1, 2, 3, 4]; decide) ?_
          exact ih103 (i103 + 1) (by omega) _ hbe106
        | succ r ih105 =>
          intro i105 hi105 b105 hb105
          have hl105 : i105 < 21 := by omega
          refine he_s 2 (pc' := 45) (lc' := [(6, .int (nI i105)), (5, .int (nI i103)), (0, .ref 185), (1, .int c), (2, .int (nI D)), (3, .int f), (4, .int t)]) (stk' := [.int 20, .int (nI i105)]) (mem' := cx (fm_u g 185 2 c) l a b105 R) (fun _ _ _ => rfl) ?_
          refine he_s 1 (pc' := cond (fx_cb .gt (nI i105) 20) 176 48) (lc' := [(6, .int (nI i105)), (5, .int (nI i103)), (0, .ref 185), (1, .int c), (2, .int (nI D)), (3, .int f), (4, .int t)]) (stk' := []) (mem' := cx (fm_u g 185 2 c) l a b105 R) (fun _ _ _ => rfl) ?_
          rw [show (fx_cb .gt (nI i105) 20) = false from cb_gtF (a := i105) (b := 20) (by omega) (by omega) (by omega)]
          dsimp only [cond]
          refine he_s 2 (pc' := 51) (lc' := [(6, .int (nI i105)), (5, .int (nI i103)), (0, .ref 185), (1, .int c), (2, .int (nI D)), (3, .int f), (4, .int t)]) (stk' := [.int (nI i105), .ref 185]) (mem' := cx (fm_u g 185 2 c) l a b105 R) (fun _ _ _ => rfl) ?_
          refine he_ivV (hd_val (x := nI i105)) (by omega) (by rfl) (by rfl) (by rfl) (by rfl) (by rfl) (by rfl) ?_
          refine he_s 3 (pc' := 61) (lc' := [(7, .int ((fm_u g 185 2 c) 185 2 + (nI i105) - 10)), (6, .int (nI i105)), (5, .int (nI i103)), (0, .ref 185), (1, .int c), (2, .int (nI D)), (3, .int f), (4, .int t)]) (stk' := [.int 999, .int ((fm_u g 185 2 c) 185 2 + (nI i105) - 10)]) (mem' := cx (fm_u g 185 2 c) l a b105 R) (fun _ _ _ => rfl) ?_
          refine he_s 1 (pc' := cond (fx_cb .ge ((fm_u g 185 2 c) 185 2 + (nI i105) - 10) 999) 78 64) (lc' := [(7, .int ((fm_u g 185 2 c) 185 2 + (nI i105) - 10)), (6, .int (nI i105)), (5, .int (nI i103)), (0, .ref 185), (1, .int c), (2, .int (nI D)), (3, .int f), (4, .int t)]) (stk' := []) (mem' := cx (fm_u g 185 2 c) l a b105 R) (fun _ _ _ => rfl) ?_
          cases y107 : fx_cb .ge ((fm_u g 185 2 c) 185 2 + (nI i105) - 10) 999
          · refine he_s 2 (pc' := 68) (lc' := [(7, .int ((fm_u g 185 2 c) 185 2 + (nI i105) - 10)), (6, .int (nI i105)), (5, .int (nI i103)), (0, .ref 185), (1, .int c), (2, .int (nI D)), (3, .int f), (4, .int t)]) (stk' := [.int 20, .int (nI i105)]) (mem' := cx (fm_u g 185 2 c) l a b105 R) (fun _ _ _ => rfl) ?_
            refine he_s 1 (pc' := cond (fx_cb .ge (nI i105) 20) 78 71) (lc' := [(7, .int ((fm_u g 185 2 c) 185 2 + (nI i105) - 10)), (6, .int (nI i105)), (5, .int (nI i103)), (0, .ref 185), (1, .int c), (2, .int (nI D)), (3, .int f), (4, .int t)]) (stk' := []) (mem' := cx (fm_u g 185 2 c) l a b105 R) (fun _ _ _ => rfl) ?_
            by_cases y108 : 20 ≤ i105
            · rw [show (fx_cb .ge (nI i105) 20) = true from cb_geT (a := i105) (b := 20) (by omega) (by omega) (by omega)]
              dsimp only [cond]
              refine he_s 3 (pc' := 84) (lc' := [(8, .int (nI i105)), (7, .int ((fm_u g 185 2 c) 185 2 + (nI i105) - 10)), (6, .int (nI i105)), (5, .int (nI i103)), (0, .ref 185), (1, .int c), (2, .int (nI D)), (3, .int f), (4, .int t)]) (stk' := [.int ((fm_u g 185 2 c) 185 2 + (nI i105) - 10)]) (mem' := cx (fm_u g 185 2 c) l a b105 R) (fun _ _ _ => rfl) ?_
              refine he_s 1 (pc' := cond (fx_cb .le ((fm_u g 185 2 c) 185 2 + (nI i105) - 10) 0) 99 87) (lc' := [(8, .int (nI i105)), (7, .int ((fm_u g 185 2 c) 185 2 + (nI i105) - 10)), (6, .int (nI i105)), (5, .int (nI i103)), (0, .ref 185), (1, .int c), (2, .int (nI D)), (3, .int f), (4, .int t)]) (stk' := []) (mem' := cx (fm_u g 185 2 c) l a b105 R) (fun _ _ _ => rfl) ?_
              cases y109 : fx_cb .le ((fm_u g 185 2 c) 185 2 + (nI i105) - 10) 0
              · refine he_s 1 (pc' := 89) (lc' := [(8, .int (nI i105)), (7, .int ((fm_u g 185 2 c) 185 2 + (nI i105) - 10)), (6, .int (nI i105)), (5, .int (nI i103)), (0, .ref 185), (1, .int c), (2, .int (nI D)), (3, .int f), (4, .int t)]) (stk' := [.int (nI i105)]) (mem' := cx (fm_u g 185 2 c) l a b105 R) (fun _ _ _ => rfl) ?_
                refine he_s 1 (pc' := cond (fx_cb .le (nI i105) 0) 99 92) (lc' := [(8, .int (nI i105)), (7, .int ((fm_u g 185 2 c) 185 2 + (nI i105) - 10)), (6, .int (nI i105)), (5, .int (nI i103)), (0, .ref 185), (1, .int c), (2, .int (nI D)), (3, .int f), (4, .int t)]) (stk' := []) (mem' := cx (fm_u g 185 2 c) l a b105 R) (fun _ _ _ => rfl) ?_
                rw [show (fx_cb .le (nI i105) 0) = false from cb_leF (a := i105) (b := 0) (by omega) (by omega) (by omega)]
                dsimp only [cond]
                refine he_s 9 (pc' := 110) (lc' := [(9, .int ((nI i105) - 1)), (8, .int (nI i105)), (7, .int ((fm_u g 185 2 c) 185 2 + (nI i105) - 10)), (6, .int (nI i105)), (5, .int (nI i103)), (0, .ref 185), (1, .int c), (2, .int (nI D)), (3, .int f), (4, .int t)]) (stk' := [.int (nI i105), .ref 187, .int (nI i105), .ref 187]) (mem' := cx (fm_u g 185 2 c) l a b105 R) (fun _ _ _ => rfl) ?_
                rw [show ((nI i105) - 1 : Int32) = nI (i105 - 1) from by simp only [show (1 : Int32) = nI 1 from rfl, tg_sub2 (x := i105) (y := 1) (by omega), nI_add, fm_mul]]
                refine he_ldL (by rfl) (by rfl) (fx_inN (i := i105) (by omega) (by omega)) ?_
                rw [show Int32.toNatClampNeg (nI i105) = i105 from nI_clamp (by omega)]
                refine he_s 3 (pc' := 117) (lc' := [(9, .int (nI (i105 - 1))), (8, .int (nI i105)), (7, .int ((fm_u g 185 2 c) 185 2 + (nI i105) - 10)), (6, .int (nI i105)), (5, .int (nI i103)), (0, .ref 185), (1, .int c), (2, .int (nI D)), (3, .int f), (4, .int t)]) (stk' := [.int (nI i105), .ref 186, .long (b105 187 i105), .int (nI i105), .ref 187]) (mem' := cx (fm_u g 185 2 c) l a b105 R) (fun _ _ _ => rfl) ?_
                refine he_ldL (by rfl) (by rfl) (fx_inN (i := i105) (by omega) (by omega)) ?_
                rw [show Int32.toNatClampNeg (nI i105) = i105 from nI_clamp (by omega)]
                refine he_s 4 (pc' := 122) (lc' := [(9, .int (nI (i105 - 1))), (8, .int (nI i105)), (7, .int ((fm_u g 185 2 c) 185 2 + (nI i105) - 10)), (6, .int (nI i105)), (5, .int (nI i103)), (0, .ref 185), (1, .int c), (2, .int (nI D)), (3, .int f), (4, .int t)]) (stk' := [.long ((b105 187 i105) + ((b105 186 i105) * (f.toInt64))), .int (nI i105), .ref 187]) (mem' := cx (fm_u g 185 2 c) l a b105 R) (fun _ _ _ => rfl) ?_
                refine he_stL (mem' := cx (fm_u g 185 2 c) l a (fm_uf b105 187 (vp_updL (b105 187) (nI i105 : Int32).toNatClampNeg ((b105 187 i105) + ((b105 186 i105) * (f.toInt64))))) R) (by rfl) (by rfl) (fx_inN (i := i105) (by omega) (by omega)) (by rfl) ?_
                rw [show Int32.toNatClampNeg (nI i105) = i105 from nI_clamp (by omega)]
                obtain ⟨be110, hbe110, ebe110⟩ : ∃ z : Nat → Nat → Int64, (∀ j, j ≠ 186 → j ≠ 187 → z j = b j) ∧ (fm_uf b105 187 (vp_updL (b105 187) i105 ((b105 187 i105) + ((b105 186 i105) * (f.toInt64))))) = z := ⟨_, fun j p1 p2 => (fm_uf_n p2).trans (hb105 j p1 p2), rfl⟩
                rw [ebe110]
                refine he_s 4 (pc' := 130) (lc' := [(9, .int (nI (i105 - 1))), (8, .int (nI i105)), (7, .int ((fm_u g 185 2 c) 185 2 + (nI i105) - 10)), (6, .int (nI i105)), (5, .int (nI i103)), (0, .ref 185), (1, .int c), (2, .int (nI D)), (3, .int f), (4, .int t)]) (stk' := [.int (nI (i105 - 1)), .ref 187, .int (nI (i105 - 1)), .ref 187]) (mem' := cx (fm_u g 185 2 c) l a be110 R) (fun _ _ _ => rfl) ?_
                refine he_ldL (by rfl) (by rfl) (fx_inN (i := i105 - 1) (by omega) (by omega)) ?_
                rw [show Int32.toNatClampNeg (nI (i105 - 1)) = i105 - 1 from nI_clamp (by omega)]
                refine he_s 3 (pc' := 137) (lc' := [(9, .int (nI (i105 - 1))), (8, .int (nI i105)), (7, .int ((fm_u g 185 2 c) 185 2 + (nI i105) - 10)), (6, .int (nI i105)), (5, .int (nI i103)), (0, .ref 185), (1, .int c), (2, .int (nI D)), (3, .int f), (4, .int t)]) (stk' := [.int (nI i105), .ref 186, .long (be110 187 (i105 - 1)), .int (nI (i105 - 1)), .ref 187]) (mem' := cx (fm_u g 185 2 c) l a be110 R) (fun _ _ _ => rfl) ?_
                refine he_ldL (by rfl) (by rfl) (fx_inN (i := i105) (by omega) (by omega)) ?_
                rw [show Int32.toNatClampNeg (nI i105) = i105 from nI_clamp (by omega)]
                refine he_s 4 (pc' := 143) (lc' := [(9, .int (nI (i105 - 1))), (8, .int (nI i105)), (7, .int ((fm_u g 185 2 c) 185 2 + (nI i105) - 10)), (6, .int (nI i105)), (5, .int (nI i103)), (0, .ref 185), (1, .int c), (2, .int (nI D)), (3, .int f), (4, .int t)]) (stk' := [.long ((be110 187 (i105 - 1)) + ((be110 186 i105) * (t.toInt64))), .int (nI (i105 - 1)), .ref 187]) (mem' := cx (fm_u g 185 2 c) l a be110 R) (fun _ _ _ => rfl) ?_
                refine he_stL (mem' := cx (fm_u g 185 2 c) l a (fm_uf be110 187 (vp_updL (be110 187) (nI (i105 - 1) : Int32).toNatClampNeg ((be110 187 (i105 - 1)) + ((be110 186 i105) * (t.toInt64))))) R) (by rfl) (by rfl) (fx_inN (i := i105 - 1) (by omega) (by omega)) (by rfl) ?_
                rw [show Int32.toNatClampNeg (nI (i105 - 1)) = i105 - 1 from nI_clamp (by omega)]
                obtain ⟨be111, hbe111, ebe111⟩ : ∃ z : Nat → Nat → Int64, (∀ j, j ≠ 186 → j ≠ 187 → z j = b j) ∧ (fm_uf be110 187 (vp_updL (be110 187) (i105 - 1) ((be110 187 (i105 - 1)) + ((be110 186 i105) * (t.toInt64))))) = z := ⟨_, fun j p1 p2 => (fm_uf_n p2).trans (hbe110 j p1 p2), rfl⟩
                rw [ebe111]
                refine he_s 4 (pc' := 151) (lc' := [(9, .int (nI (i105 - 1))), (8, .int (nI i105)), (7, .int ((fm_u g 185 2 c) 185 2 + (nI i105) - 10)), (6, .int (nI i105)), (5, .int (nI i103)), (0, .ref 185), (1, .int c), (2, .int (nI D)), (3, .int f), (4, .int t)]) (stk' := [.int (nI i105), .ref 187, .int (nI i105), .ref 187]) (mem' := cx (fm_u g 185 2 c) l a be111 R) (fun _ _ _ => rfl) ?_
                refine he_ldL (by rfl) (by rfl) (fx_inN (i := i105) (by omega) (by omega)) ?_
                rw [show Int32.toNatClampNeg (nI i105) = i105 from nI_clamp (by omega)]
                refine he_s 3 (pc' := 158) (lc' := [(9, .int (nI (i105 - 1))), (8, .int (nI i105)), (7, .int ((fm_u g 185 2 c) 185 2 + (nI i105) - 10)), (6, .int (nI i105)), (5, .int (nI i103)), (0, .ref 185), (1, .int c), (2, .int (nI D)), (3, .int f), (4, .int t)]) (stk' := [.int (nI i105), .ref 186, .long (be111 187 i105), .int (nI i105), .ref 187]) (mem' := cx (fm_u g 185 2 c) l a be111 R) (fun _ _ _ => rfl) ?_
                refine he_ldL (by rfl) (by rfl) (fx_inN (i := i105) (by omega) (by omega)) ?_
                rw [show Int32.toNatClampNeg (nI i105) = i105 from nI_clamp (by omega)]
                refine he_s 8 (pc' := 169) (lc' := [(9, .int (nI (i105 - 1))), (8, .int (nI i105)), (7, .int ((fm_u g 185 2 c) 185 2 + (nI i105) - 10)), (6, .int (nI i105)), (5, .int (nI i103)), (0, .ref 185), (1, .int c), (2, .int (nI D)), (3, .int f), (4, .int t)]) (stk' := [.long ((be111 187 i105) + ((be111 186 i105) * (((16 - f) - t).toInt64))), .int (nI i105), .ref 187]) (mem' := cx (fm_u g 185 2 c) l a be111 R) (fun _ _ _ => rfl) ?_
                refine he_stL (mem' := cx (fm_u g 185 2 c) l a (fm_uf be111 187 (vp_updL (be111 187) (nI i105 : Int32).toNatClampNeg ((be111 187 i105) + ((be111 186 i105) * (((16 - f) - t).toInt64))))) R) (by rfl) (by rfl) (fx_inN (i := i105) (by omega) (by omega)) (by rfl) ?_
                rw [show Int32.toNatClampNeg (nI i105) = i105 from nI_clamp (by omega)]
                obtain ⟨be112, hbe112, ebe112⟩ : ∃ z : Nat → Nat → Int64, (∀ j, j ≠ 186 → j ≠ 187 → z j = b j) ∧ (fm_uf be111 187 (vp_updL (be111 187) i105 ((be111 187 i105) + ((be111 186 i105) * (((16 - f) - t).toInt64))))) = z := ⟨_, fun j p1 p2 => (fm_uf_n p2).trans (hbe111 j p1 p2), rfl⟩
                rw [ebe112]
                refine he_s 1 (pc' := 173) (lc' := [(6, .int ((nI i105) + 1)), (9, .int (nI (i105 - 1))), (8, .int (nI i105)), (7, .int ((fm_u g 185 2 c) 185 2 + (nI i105) - 10)), (5, .int (nI i103)), (0, .ref 185), (1, .int c), (2, .int (nI D)), (3, .int f), (4, .int t)]) (stk' := []) (mem' := cx (fm_u g 185 2 c) l a be112 R) (fun _ _ _ => rfl) ?_
                rw [show ((nI i105) + 1 : Int32) = nI (i105 + 1) from by simp only [show (1 : Int32) = nI 1 from rfl, nI_add, fm_mul]]
                refine he_s 1 (pc' := fx_to 173 (-132)) (lc' := [(6, .int (nI (i105 + 1))), (9, .int (nI (i105 - 1))), (8, .int (nI i105)), (7, .int ((fm_u g 185 2 c) 185 2 + (nI i105) - 10)), (5, .int (nI i103)), (0, .ref 185), (1, .int c), (2, .int (nI D)), (3, .int f), (4, .int t)]) (stk' := []) (mem' := cx (fm_u g 185 2 c) l a be112 R) (fun _ _ _ => rfl) ?_
                rw [show fx_to 173 (-132) = 41 from by decide]
                refine he_w (lc' := [(6, .int (nI (i105 + 1))), (5, .int (nI i103)), (0, .ref 185), (1, .int c), (2, .int (nI D)), (3, .int f), (4, .int t)]) ⟨rfl, rfl, rfl, rfl, rfl, rfl, rfl, trivial⟩ (by show List.Nodup [6, 5, 0, 1, 2, 3, 4]; decide) (by show List.Nodup [6, 9, 8, 7, 5, 0, 1, 2, 3, 4]; decide) ?_
                exact ih105 (i105 + 1) (by omega) _ hbe112
              · refine he_s 6 (pc' := 110) (lc' := [(9, .int (nI i105)), (8, .int (nI i105)), (7, .int ((fm_u g 185 2 c) 185 2 + (nI i105) - 10)), (6, .int (nI i105)), (5, .int (nI i103)), (0, .ref 185), (1, .int c), (2, .int (nI D)), (3, .int f), (4, .int t)]) (stk' := [.int (nI i105), .ref 187, .int (nI i105), .ref 187]) (mem' := cx (fm_u g 185 2 c) l a b105 R) (fun _ _ _ => rfl) ?_
                refine he_ldL (by rfl) (by rfl) (fx_inN (i := i105) (by omega) (by omega)) ?_
                rw [show Int32.toNatClampNeg (nI i105) = i105 from nI_clamp (by omega)]
                refine he_s 3 (pc' := 117) (lc' := [(9, .int (nI i105)), (8, .int (nI i105)), (7, .int ((fm_u g 185 2 c) 185 2 + (nI i105) - 10)), (6, .int (nI i105)), (5, .int (nI i103)), (0, .ref 185), (1, .int c), (2, .int (nI D)), (3, .int f), (4, .int t)]) (stk' := [.int (nI i105), .ref 186, .long (b105 187 i105), .int (nI i105), .ref 187]) (mem' := cx (fm_u g 185 2 c) l a b105 R) (fun _ _ _ => rfl) ?_
                refine he_ldL (by rfl) (by rfl) (fx_inN (i := i105) (by omega) (by omega)) ?_
                rw [show Int32.toNatClampNeg (nI i105) = i105 from nI_clamp (by omega)]
                refine he_s 4 (pc' := 122) (lc' := [(9, .int (nI i105)), (8, .int (nI i105)), (7, .int ((fm_u g 185 2 c) 185 2 + (nI i105) - 10)), (6, .int (nI i105)), (5, .int (nI i103)), (0, .ref 185), (1, .int c), (2, .int (nI D)), (3, .int f), (4, .int t)]) (stk' := [.long ((b105 187 i105) + ((b105 186 i105) * (f.toInt64))), .int (nI i105), .ref 187]) (mem' := cx (fm_u g 185 2 c) l a b105 R) (fun _ _ _ => rfl) ?_
                refine he_stL (mem' := cx (fm_u g 185 2 c) l a (fm_uf b105 187 (vp_updL (b105 187) (nI i105 : Int32).toNatClampNeg ((b105 187 i105) + ((b105 186 i105) * (f.toInt64))))) R) (by rfl) (by rfl) (fx_inN (i := i105) (by omega) (by omega)) (by rfl) ?_
                rw [show Int32.toNatClampNeg (nI i105) = i105 from nI_clamp (by omega)]
                obtain ⟨be113, hbe113, ebe113⟩ : ∃ z : Nat → Nat → Int64, (∀ j, j ≠ 186 → j ≠ 187 → z j = b j) ∧ (fm_uf b105 187 (vp_updL (b105 187) i105 ((b105 187 i105) + ((b105 186 i105) * (f.toInt64))))) = z := ⟨_, fun j p1 p2 => (fm_uf_n p2).trans (hb105 j p1 p2), rfl⟩
                rw [ebe113]
                refine he_s 4 (pc' := 130) (lc' := [(9, .int (nI i105)), (8, .int (nI i105)), (7, .int ((fm_u g 185 2 c) 185 2 + (nI i105) - 10)), (6, .int (nI i105)), (5, .int (nI i103)), (0, .ref 185), (1, .int c), (2, .int (nI D)), (3, .int f), (4, .int t)]) (stk' := [.int (nI i105), .ref 187, .int (nI i105), .ref 187]) (mem' := cx (fm_u g 185 2 c) l a be113 R) (fun _ _ _ => rfl) ?_
                refine he_ldL (by rfl) (by rfl) (fx_inN (i := i105) (by omega) (by omega)) ?_
                rw [show Int32.toNatClampNeg (nI i105) = i105 from nI_clamp (by omega)]
                refine he_s 3 (pc' := 137) (lc' := [(9, .int (nI i105)), (8, .int (nI i105)), (7, .int ((fm_u g 185 2 c) 185 2 + (nI i105) - 10)), (6, .int (nI i105)), (5, .int (nI i103)), (0, .ref 185), (1, .int c), (2, .int (nI D)), (3, .int f), (4, .int t)]) (stk' := [.int (nI i105), .ref 186, .long (be113 187 i105), .int (nI i105), .ref 187]) (mem' := cx (fm_u g 185 2 c) l a be113 R) (fun _ _ _ => rfl) ?_
                refine he_ldL (by rfl) (by rfl) (fx_inN (i := i105) (by omega) (by omega)) ?_
                rw [show Int32.toNatClampNeg (nI i105) = i105 from nI_clamp (by omega)]
                refine he_s 4 (pc' := 143) (lc' := [(9, .int (nI i105)), (8, .int (nI i105)), (7, .int ((fm_u g 185 2 c) 185 2 + (nI i105) - 10)), (6, .int (nI i105)), (5, .int (nI i103)), (0, .ref 185), (1, .int c), (2, .int (nI D)), (3, .int f), (4, .int t)]) (stk' := [.long ((be113 187 i105) + ((be113 186 i105) * (t.toInt64))), .int (nI i105), .ref 187]) (mem' := cx (fm_u g 185 2 c) l a be113 R) (fun _ _ _ => rfl) ?_
                refine he_stL (mem' := cx (fm_u g 185 2 c) l a (fm_uf be113 187 (vp_updL (be113 187) (nI i105 : Int32).toNatClampNeg ((be113 187 i105) + ((be113 186 i105) * (t.toInt64))))) R) (by rfl) (by rfl) (fx_inN (i := i105) (by omega) (by omega)) (by rfl) ?_
                rw [show Int32.toNatClampNeg (nI i105) = i105 from nI_clamp (by omega)]
                obtain ⟨be114, hbe114, ebe114⟩ : ∃ z : Nat → Nat → Int64, (∀ j, j ≠ 186 → j ≠ 187 → z j = b j) ∧ (fm_uf be113 187 (vp_updL (be113 187) i105 ((be113 187 i105) + ((be113 186 i105) * (t.toInt64))))) = z := ⟨_, fun j p1 p2 => (fm_uf_n p2).trans (hbe113 j p1 p2), rfl⟩
                rw [ebe114]
                refine he_s 4 (pc' := 151) (lc' := [(9, .int (nI i105)), (8, .int (nI i105)), (7, .int ((fm_u g 185 2 c) 185 2 + (nI i105) - 10)), (6, .int (nI i105)), (5, .int (nI i103)), (0, .ref 185), (1, .int c), (2, .int (nI D)), (3, .int f), (4, .int t)]) (stk' := [.int (nI i105), .ref 187, .int (nI i105), .ref 187]) (mem' := cx (fm_u g 185 2 c) l a be114 R) (fun _ _ _ => rfl) ?_
                refine he_ldL (by rfl) (by rfl) (fx_inN (i := i105) (by omega) (by omega)) ?_
                rw [show Int32.toNatClampNeg (nI i105) = i105 from nI_clamp (by omega)]
                refine he_s 3 (pc' := 158) (lc' := [(9, .int (nI i105)), (8, .int (nI i105)), (7, .int ((fm_u g 185 2 c) 185 2 + (nI i105) - 10)), (6, .int (nI i105)), (5, .int (nI i103)), (0, .ref 185), (1, .int c), (2, .int (nI D)), (3, .int f), (4, .int t)]) (stk' := [.int (nI i105), .ref 186, .long (be114 187 i105), .int (nI i105), .ref 187]) (mem' := cx (fm_u g 185 2 c) l a be114 R) (fun _ _ _ => rfl) ?_
                refine he_ldL (by rfl) (by rfl) (fx_inN (i := i105) (by omega) (by omega)) ?_
                rw [show Int32.toNatClampNeg (nI i105) = i105 from nI_clamp (by omega)]
                refine he_s 8 (pc' := 169) (lc' := [(9, .int (nI i105)), (8, .int (nI i105)), (7, .int ((fm_u g 185 2 c) 185 2 + (nI i105) - 10)), (6, .int (nI i105)), (5, .int (nI i103)), (0, .ref 185), (1, .int c), (2, .int (nI D)), (3, .int f), (4, .int t)]) (stk' := [.long ((be114 187 i105) + ((be114 186 i105) * (((16 - f) - t).toInt64))), .int (nI i105), .ref 187]) (mem' := cx (fm_u g 185 2 c) l a be114 R) (fun _ _ _ => rfl) ?_
                refine he_stL (mem' := cx (fm_u g 185 2 c) l a (fm_uf be114 187 (vp_updL (be114 187) (nI i105 : Int32).toNatClampNeg ((be114 187 i105) + ((be114 186 i105) * (((16 - f) - t).toInt64))))) R) (by rfl) (by rfl) (fx_inN (i := i105) (by omega) (by omega)) (by rfl) ?_
                rw [show Int32.toNatClampNeg (nI i105) = i105 from nI_clamp (by omega)]
                obtain ⟨be115, hbe115, ebe115⟩ : ∃ z : Nat → Nat → Int64, (∀ j, j ≠ 186 → j ≠ 187 → z j = b j) ∧ (fm_uf be114 187 (vp_updL (be114 187) i105 ((be114 187 i105) + ((be114 186 i105) * (((16 - f) - t).toInt64))))) = z := ⟨_, fun j p1 p2 => (fm_uf_n p2).trans (hbe114 j p1 p2), rfl⟩
                rw [ebe115]
                refine he_s 1 (pc' := 173) (lc' := [(6, .int ((nI i105) + 1)), (9, .int (nI i105)), (8, .int (nI i105)), (7, .int ((fm_u g 185 2 c) 185 2 + (nI i105) - 10)), (5, .int (nI i103)), (0, .ref 185), (1, .int c), (2, .int (nI D)), (3, .int f), (4, .int t)]) (stk' := []) (mem' := cx (fm_u g 185 2 c) l a be115 R) (fun _ _ _ => rfl) ?_
                rw [show ((nI i105) + 1 : Int32) = nI (i105 + 1) from by simp only [show (1 : Int32) = nI 1 from rfl, nI_add, fm_mul]]
                refine he_s 1 (pc' := fx_to 173 (-132)) (lc' := [(6, .int (nI (i105 + 1))), (9, .int (nI i105)), (8, .int (nI i105)), (7, .int ((fm_u g 185 2 c) 185 2 + (nI i105) - 10)), (5, .int (nI i103)), (0, .ref 185), (1, .int c), (2, .int (nI D)), (3, .int f), (4, .int t)]) (stk' := []) (mem' := cx (fm_u g 185 2 c) l a be115 R) (fun _ _ _ => rfl) ?_
                rw [show fx_to 173 (-132) = 41 from by decide]
                refine he_w (lc' := [(6, .int (nI (i105 + 1))), (5, .int (nI i103)), (0, .ref 185), (1, .int c), (2, .int (nI D)), (3, .int f), (4, .int t)]) ⟨rfl, rfl, rfl, rfl, rfl, rfl, rfl, trivial⟩ (by show List.Nodup [6, 5, 0, 1, 2, 3, 4]; decide) (by show List.Nodup [6, 9, 8, 7, 5, 0, 1, 2, 3, 4]; decide) ?_
                exact ih105 (i105 + 1) (by omega) _ hbe115
            · rw [show (fx_cb .ge (nI i105) 20) = false from cb_geF (a := i105) (b := 20) (by omega) (by omega) (by omega)]
              dsimp only [cond]
              refine he_s 6 (pc' := 84) (lc' := [(8, .int ((nI i105) + 1)), (7, .int ((fm_u g 185 2 c) 185 2 + (nI i105) - 10)), (6, .int (nI i105)), (5, .int (nI i103)), (0, .ref 185), (1, .int c), (2, .int (nI D)), (3, .int f), (4, .int t)]) (stk' := [.int ((fm_u g 185 2 c) 185 2 + (nI i105) - 10)]) (mem' := cx (fm_u g 185 2 c) l a b105 R) (fun _ _ _ => rfl) ?_
              rw [show ((nI i105) + 1 : Int32) = nI (i105 + 1) from by simp only [show (1 : Int32) = nI 1 from rfl, nI_add, fm_mul]]
              refine he_s 1 (pc' := cond (fx_cb .le ((fm_u g 185 2 c) 185 2 + (nI i105) - 10) 0) 99 87) (lc' := [(8, .int (nI (i105 + 1))), (7, .int ((fm_u g 185 2 c) 185 2 + (nI i105) - 10)), (6, .int (nI i105)), (5, .int (nI i103)), (0, .ref 185), (1, .int c), (2, .int (nI D)), (3, .int f), (4, .int t)]) (stk' := []) (mem' := cx (fm_u g 185 2 c) l a b105 R) (fun _ _ _ => rfl) ?_
              cases y116 : fx_cb .le ((fm_u g 185 2 c) 185 2 + (nI i105) - 10) 0
              · refine he_s 1 (pc' := 89) (lc' := [(8, .int (nI (i105 + 1))), (7, .int ((fm_u g 185 2 c) 185 2 + (nI i105) - 10)), (6, .int (nI i105)), (5, .int (nI i103)), (0, .ref 185), (1, .int c), (2, .int (nI D)), (3, .int f), (4, .int t)]) (stk' := [.int (nI i105)]) (mem' := cx (fm_u g 185 2 c) l a b105 R) (fun _ _ _ => rfl) ?_
                refine he_s 1 (pc' := cond (fx_cb .le (nI i105) 0) 99 92) (lc' := [(8, .int (nI (i105 + 1))), (7, .int ((fm_u g 185 2 c) 185 2 + (nI i105) - 10)), (6, .int (nI i105)), (5, .int (nI i103)), (0, .ref 185), (1, .int c), (2, .int (nI D)), (3, .int f), (4, .int t)]) (stk' := []) (mem' := cx (fm_u g 185 2 c) l a b105 R) (fun _ _ _ => rfl) ?_
                by_cases y117 : i105 ≤ 0
                · rw [show (fx_cb .le (nI i105) 0) = true from cb_leT (a := i105) (b := 0) (by omega) (by omega) (by omega)]
                  dsimp only [cond]
                  refine he_s 6 (pc' := 110) (lc' := [(9, .int (nI i105)), (8, .int (nI (i105 + 1))), (7, .int ((fm_u g 185 2 c) 185 2 + (nI i105) - 10)), (6, .int (nI i105)), (5, .int (nI i103)), (0, .ref 185), (1, .int c), (2, .int (nI D)), (3, .int f), (4, .int t)]) (stk' := [.int (nI (i105 + 1)), .ref 187, .int (nI (i105 + 1)), .ref 187]) (mem' := cx (fm_u g 185 2 c) l a b105 R) (fun _ _ _ => rfl) ?_
                  refine he_ldL (by rfl) (by rfl) (fx_inN (i := i105 + 1) (by omega) (by omega)) ?_
                  rw [show Int32.toNatClampNeg (nI (i105 + 1)) = i105 + 1 from nI_clamp (by omega)]
                  refine he_s 3 (pc' := 117) (lc' := [(9, .int (nI i105)), (8, .int (nI (i105 + 1))), (7, .int ((fm_u g 185 2 c) 185 2 + (nI i105) - 10)), (6, .int (nI i105)), (5, .int (nI i103)), (0, .ref 185), (1, .int c), (2, .int (nI D)), (3, .int f), (4, .int t)]) (stk' := [.int (nI i105), .ref 186, .long (b105 187 (i105 + 1)), .int (nI (i105 + 1)), .ref 187]) (mem' := cx (fm_u g 185 2 c) l a b105 R) (fun _ _ _ => rfl) ?_
                  refine he_ldL (by rfl) (by rfl) (fx_inN (i := i105) (by omega) (by omega)) ?_
                  rw [show Int32.toNatClampNeg (nI i105) = i105 from nI_clamp (by omega)]
                  refine he_s 4 (pc' := 122) (lc' := [(9, .int (nI i105)), (8, .int (nI (i105 + 1))), (7, .int ((fm_u g 185 2 c) 185 2 + (nI i105) - 10)), (6, .int (nI i105)), (5, .int (nI i103)), (0, .ref 185), (1, .int c), (2, .int (nI D)), (3, .int f), (4, .int t)]) (stk' := [.long ((b105 187 (i105 + 1)) + ((b105 186 i105) * (f.toInt64))), .int (nI (i105 + 1)), .ref 187]) (mem' := cx (fm_u g 185 2 c) l a b105 R) (fun _ _ _ => rfl) ?_
                  refine he_stL (mem' := cx (fm_u g 185 2 c) l a (fm_uf b105 187 (vp_updL (b105 187) (nI (i105 + 1) : Int32).toNatClampNeg ((b105 187 (i105 + 1)) + ((b105 186 i105) * (f.toInt64))))) R) (by rfl) (by rfl) (fx_inN (i := i105 + 1) (by omega) (by omega)) (by rfl) ?_
                  rw [show Int32.toNatClampNeg (nI (i105 + 1)) = i105 + 1 from nI_clamp (by omega)]
                  obtain ⟨be118, hbe118, ebe118⟩ : ∃ z : Nat → Nat → Int64, (∀ j, j ≠ 186 → j ≠ 187 → z j = b j) ∧ (fm_uf b105 187 (vp_updL (b105 187) (i105 + 1) ((b105 187 (i105 + 1)) + ((b105 186 i105) * (f.toInt64))))) = z := ⟨_, fun j p1 p2 => (fm_uf_n p2).trans (hb105 j p1 p2), rfl⟩
                  rw [ebe118]
                  refine he_s 4 (pc' := 130) (lc' := [(9, .int (nI i105)), (8, .int (nI (i105 + 1))), (7, .int ((fm_u g 185 2 c) 185 2 + (nI i105) - 10)), (6, .int (nI i105)), (5, .int (nI i103)), (0, .ref 185), (1, .int c), (2, .int (nI D)), (3, .int f), (4, .int t)]) (stk' := [.int (nI i105), .ref 187, .int (nI i105), .ref 187]) (mem' := cx (fm_u g 185 2 c) l a be118 R) (fun _ _ _ => rfl) ?_
                  refine he_ldL (by rfl) (by rfl) (fx_inN (i := i105) (by omega) (by omega)) ?_
                  rw [show Int32.toNatClampNeg (nI i105) = i105 from nI_clamp (by omega)]
                  refine he_s 3 (pc' := 137) (lc' := [(9, .int (nI i105)), (8, .int (nI (i105 + 1))), (7, .int ((fm_u g 185 2 c) 185 2 + (nI i105) - 10)), (6, .int (nI i105)), (5, .int (nI i103)), (0, .ref 185), (1, .int c), (2, .int (nI D)), (3, .int f), (4, .int t)]) (stk' := [.int (nI i105), .ref 186, .long (be118 187 i105), .int (nI i105), .ref 187]) (mem' := cx (fm_u g 185 2 c) l a be118 R) (fun _ _ _ => rfl) ?_
                  refine he_ldL (by rfl) (by rfl) (fx_inN (i := i105) (by omega) (by omega)) ?_
                  rw [show Int32.toNatClampNeg (nI i105) = i105 from nI_clamp (by omega)]
                  refine he_s 4 (pc' := 143) (lc' := [(9, .int (nI i105)), (8, .int (nI (i105 + 1))), (7, .int ((fm_u g 185 2 c) 185 2 + (nI i105) - 10)), (6, .int (nI i105)), (5, .int (nI i103)), (0, .ref 185), (1, .int c), (2, .int (nI D)), (3, .int f), (4, .int t)]) (stk' := [.long ((be118 187 i105) + ((be118 186 i105) * (t.toInt64))), .int (nI i105), .ref 187]) (mem' := cx (fm_u g 185 2 c) l a be118 R) (fun _ _ _ => rfl) ?_
                  refine he_stL (mem' := cx (fm_u g 185 2 c) l a (fm_uf be118 187 (vp_updL (be118 187) (nI i105 : Int32).toNatClampNeg ((be118 187 i105) + ((be118 186 i105) * (t.toInt64))))) R) (by rfl) (by rfl) (fx_inN (i := i105) (by omega) (by omega)) (by rfl) ?_
                  rw [show Int32.toNatClampNeg (nI i105) = i105 from nI_clamp (by omega)]
                  obtain ⟨be119, hbe119, ebe119⟩ : ∃ z : Nat → Nat → Int64, (∀ j, j ≠ 186 → j ≠ 187 → z j = b j) ∧ (fm_uf be118 187 (vp_updL (be118 187) i105 ((be118 187 i105) + ((be118 186 i105) * (t.toInt64))))) = z := ⟨_, fun j p1 p2 => (fm_uf_n p2).trans (hbe118 j p1 p2), rfl⟩
                  rw [ebe119]
                  refine he_s 4 (pc' := 151) (lc' := [(9, .int (nI i105)), (8, .int (nI (i105 + 1))), (7, .int ((fm_u g 185 2 c) 185 2 + (nI i105) - 10)), (6, .int (nI i105)), (5, .int (nI i103)), (0, .ref 185), (1, .int c), (2, .int (nI D)), (3, .int f), (4, .int t)]) (stk' := [.int (nI i105), .ref 187, .int (nI i105), .ref 187]) (mem' := cx (fm_u g 185 2 c) l a be119 R) (fun _ _ _ => rfl) ?_
                  refine he_ldL (by rfl) (by rfl) (fx_inN (i := i105) (by omega) (by omega)) ?_
                  rw [show Int32.toNatClampNeg (nI i105) = i105 from nI_clamp (by omega)]
                  refine he_s 3 (pc' := 158) (lc' := [(9, .int (nI i105)), (8, .int (nI (i105 + 1))), (7, .int ((fm_u g 185 2 c) 185 2 + (nI i105) - 10)), (6, .int (nI i105)), (5, .int (nI i103)), (0, .ref 185), (1, .int c), (2, .int (nI D)), (3, .int f), (4, .int t)]) (stk' := [.int (nI i105), .ref 186, .long (be119 187 i105), .int (nI i105), .ref 187]) (mem' := cx (fm_u g 185 2 c) l a be119 R) (fun _ _ _ => rfl) ?_
                  refine he_ldL (by rfl) (by rfl) (fx_inN (i := i105) (by omega) (by omega)) ?_
                  rw [show Int32.toNatClampNeg (nI i105) = i105 from nI_clamp (by omega)]
                  refine he_s 8 (pc' := 169) (lc' := [(9, .int (nI i105)), (8, .int (nI (i105 + 1))), (7, .int ((fm_u g 185 2 c) 185 2 + (nI i105) - 10)), (6, .int (nI i105)), (5, .int (nI i103)), (0, .ref 185), (1, .int c), (2, .int (nI D)), (3, .int f), (4, .int t)]) (stk' := [.long ((be119 187 i105) + ((be119 186 i105) * (((16 - f) - t).toInt64))), .int (nI i105), .ref 187]) (mem' := cx (fm_u g 185 2 c) l a be119 R) (fun _ _ _ => rfl) ?_
                  refine he_stL (mem' := cx (fm_u g 185 2 c) l a (fm_uf be119 187 (vp_updL (be119 187) (nI i105 : Int32).toNatClampNeg ((be119 187 i105) + ((be119 186 i105) * (((16 - f) - t).toInt64))))) R) (by rfl) (by rfl) (fx_inN (i := i105) (by omega) (by omega)) (by rfl) ?_
                  rw [show Int32.toNatClampNeg (nI i105) = i105 from nI_clamp (by omega)]
                  obtain ⟨be120, hbe120, ebe120⟩ : ∃ z : Nat → Nat → Int64, (∀ j, j ≠ 186 → j ≠ 187 → z j = b j) ∧ (fm_uf be119 187 (vp_updL (be119 187) i105 ((be119 187 i105) + ((be119 186 i105) * (((16 - f) - t).toInt64))))) = z := ⟨_, fun j p1 p2 => (fm_uf_n p2).trans (hbe119 j p1 p2), rfl⟩
                  rw [ebe120]
                  refine he_s 1 (pc' := 173) (lc' := [(6, .int ((nI i105) + 1)), (9, .int (nI i105)), (8, .int (nI (i105 + 1))), (7, .int ((fm_u g 185 2 c) 185 2 + (nI i105) - 10)), (5, .int (nI i103)), (0, .ref 185), (1, .int c), (2, .int (nI D)), (3, .int f), (4, .int t)]) (stk' := []) (mem' := cx (fm_u g 185 2 c) l a be120 R) (fun _ _ _ => rfl) ?_
                  rw [show ((nI i105) + 1 : Int32) = nI (i105 + 1) from by simp only [show (1 : Int32) = nI 1 from rfl, nI_add, fm_mul]]
                  refine he_s 1 (pc' := fx_to 173 (-132)) (lc' := [(6, .int (nI (i105 + 1))), (9, .int (nI i105)), (8, .int (nI (i105 + 1))), (7, .int ((fm_u g 185 2 c) 185 2 + (nI i105) - 10)), (5, .int (nI i103)), (0, .ref 185), (1, .int c), (2, .int (nI D)), (3, .int f), (4, .int t)]) (stk' := []) (mem' := cx (fm_u g 185 2 c) l a be120 R) (fun _ _ _ => rfl) ?_
                  rw [show fx_to 173 (-132) = 41 from by decide]
                  refine he_w (lc' := [(6, .int (nI (i105 + 1))), (5, .int (nI i103)), (0, .ref 185), (1, .int c), (2, .int (nI D)), (3, .int f), (4, .int t)]) ⟨rfl, rfl, rfl, rfl, rfl, rfl, rfl, trivial⟩ (by show List.Nodup [6, 5, 0, 1, 2, 3, 4]; decide) (by show List.Nodup [6, 9, 8, 7, 5, 0, 1, 2, 3, 4]; decide) ?_
                  exact ih105 (i105 + 1) (by omega) _ hbe120
                · rw [show (fx_cb .le (nI i105) 0) = false from cb_leF (a := i105) (b := 0) (by omega) (by omega) (by omega)]
                  dsimp only [cond]
                  refine he_s 9 (pc' := 110) (lc' := [(9, .int ((nI i105) - 1)), (8, .int (nI (i105 + 1))), (7, .int ((fm_u g 185 2 c) 185 2 + (nI i105) - 10)), (6, .int (nI i105)), (5, .int (nI i103)), (0, .ref 185), (1, .int c), (2, .int (nI D)), (3, .int f), (4, .int t)]) (stk' := [.int (nI (i105 + 1)), .ref 187, .int (nI (i105 + 1)), .ref 187]) (mem' := cx (fm_u g 185 2 c) l a b105 R) (fun _ _ _ => rfl) ?_
                  rw [show ((nI i105) - 1 : Int32) = nI (i105 - 1) from by simp only [show (1 : Int32) = nI 1 from rfl, tg_sub2 (x := i105) (y := 1) (by omega), nI_add, fm_mul]]
                  refine he_ldL (by rfl) (by rfl) (fx_inN (i := i105 + 1) (by omega) (by omega)) ?_
                  rw [show Int32.toNatClampNeg (nI (i105 + 1)) = i105 + 1 from nI_clamp (by omega)]
                  refine he_s 3 (pc' := 117) (lc' := [(9, .int (nI (i105 - 1))), (8, .int (nI (i105 + 1))), (7, .int ((fm_u g 185 2 c) 185 2 + (nI i105) - 10)), (6, .int (nI i105)), (5, .int (nI i103)), (0, .ref 185), (1, .int c), (2, .int (nI D)), (3, .int f), (4, .int t)]) (stk' := [.int (nI i105), .ref 186, .long (b105 187 (i105 + 1)), .int (nI (i105 + 1)), .ref 187]) (mem' := cx (fm_u g 185 2 c) l a b105 R) (fun _ _ _ => rfl) ?_
                  refine he_ldL (by rfl) (by rfl) (fx_inN (i := i105) (by omega) (by omega)) ?_
                  rw [show Int32.toNatClampNeg (nI i105) = i105 from nI_clamp (by omega)]
                  refine he_s 4 (pc' := 122) (lc' := [(9, .int (nI (i105 - 1))), (8, .int (nI (i105 + 1))), (7, .int ((fm_u g 185 2 c) 185 2 + (nI i105) - 10)), (6, .int (nI i105)), (5, .int (nI i103)), (0, .ref 185), (1, .int c), (2, .int (nI D)), (3, .int f), (4, .int t)]) (stk' := [.long ((b105 187 (i105 + 1)) + ((b105 186 i105) * (f.toInt64))), .int (nI (i105 + 1)), .ref 187]) (mem' := cx (fm_u g 185 2 c) l a b105 R) (fun _ _ _ => rfl) ?_
                  refine he_stL (mem' := cx (fm_u g 185 2 c) l a (fm_uf b105 187 (vp_updL (b105 187) (nI (i105 + 1) : Int32).toNatClampNeg ((b105 187 (i105 + 1)) + ((b105 186 i105) * (f.toInt64))))) R) (by rfl) (by rfl) (fx_inN (i := i105 + 1) (by omega) (by omega)) (by rfl) ?_
                  rw [show Int32.toNatClampNeg (nI (i105 + 1)) = i105 + 1 from nI_clamp (by omega)]
                  obtain ⟨be121, hbe121, ebe121⟩ : ∃ z : Nat → Nat → Int64, (∀ j, j ≠ 186 → j ≠ 187 → z j = b j) ∧ (fm_uf b105 187 (vp_updL (b105 187) (i105 + 1) ((b105 187 (i105 + 1)) + ((b105 186 i105) * (f.toInt64))))) = z := ⟨_, fun j p1 p2 => (fm_uf_n p2).trans (hb105 j p1 p2), rfl⟩
                  rw [ebe121]
                  refine he_s 4 (pc' := 130) (lc' := [(9, .int (nI (i105 - 1))), (8, .int (nI (i105 + 1))), (7, .int ((fm_u g 185 2 c) 185 2 + (nI i105) - 10)), (6, .int (nI i105)), (5, .int (nI i103)), (0, .ref 185), (1, .int c), (2, .int (nI D)), (3, .int f), (4, .int t)]) (stk' := [.int (nI (i105 - 1)), .ref 187, .int (nI (i105 - 1)), .ref 187]) (mem' := cx (fm_u g 185 2 c) l a be121 R) (fun _ _ _ => rfl) ?_
                  refine he_ldL (by rfl) (by rfl) (fx_inN (i := i105 - 1) (by omega) (by omega)) ?_
                  rw [show Int32.toNatClampNeg (nI (i105 - 1)) = i105 - 1 from nI_clamp (by omega)]
                  refine he_s 3 (pc' := 137) (lc' := [(9, .int (nI (i105 - 1))), (8, .int (nI (i105 + 1))), (7, .int ((fm_u g 185 2 c) 185 2 + (nI i105) - 10)), (6, .int (nI i105)), (5, .int (nI i103)), (0, .ref 185), (1, .int c), (2, .int (nI D)), (3, .int f), (4, .int t)]) (stk' := [.int (nI i105), .ref 186, .long (be121 187 (i105 - 1)), .int (nI (i105 - 1)), .ref 187]) (mem' := cx (fm_u g 185 2 c) l a be121 R) (fun _ _ _ => rfl) ?_
                  refine he_ldL (by rfl) (by rfl) (fx_inN (i := i105) (by omega) (by omega)) ?_
                  rw [show Int32.toNatClampNeg (nI i105) = i105 from nI_clamp (by omega)]
                  refine he_s 4 (pc' := 143) (lc' := [(9, .int (nI (i105 - 1))), (8, .int (nI (i105 + 1))), (7, .int ((fm_u g 185 2 c) 185 2 + (nI i105) - 10)), (6, .int (nI i105)), (5, .int (nI i103)), (0, .ref 185), (1, .int c), (2, .int (nI D)), (3, .int f), (4, .int t)]) (stk' := [.long ((be121 187 (i105 - 1)) + ((be121 186 i105) * (t.toInt64))), .int (nI (i105 - 1)), .ref 187]) (mem' := cx (fm_u g 185 2 c) l a be121 R) (fun _ _ _ => rfl) ?_
                  refine he_stL (mem' := cx (fm_u g 185 2 c) l a (fm_uf be121 187 (vp_updL (be121 187) (nI (i105 - 1) : Int32).toNatClampNeg ((be121 187 (i105 - 1)) + ((be121 186 i105) * (t.toInt64))))) R) (by rfl) (by rfl) (fx_inN (i := i105 - 1) (by omega) (by omega)) (by rfl) ?_
                  rw [show Int32.toNatClampNeg (nI (i105 - 1)) = i105 - 1 from nI_clamp (by omega)]
                  obtain ⟨be122, hbe122, ebe122⟩ : ∃ z : Nat → Nat → Int64, (∀ j, j ≠ 186 → j ≠ 187 → z j = b j) ∧ (fm_uf be121 187 (vp_updL (be121 187) (i105 - 1) ((be121 187 (i105 - 1)) + ((be121 186 i105) * (t.toInt64))))) = z := ⟨_, fun j p1 p2 => (fm_uf_n p2).trans (hbe121 j p1 p2), rfl⟩
                  rw [ebe122]
                  refine he_s 4 (pc' := 151) (lc' := [(9, .int (nI (i105 - 1))), (8, .int (nI (i105 + 1))), (7, .int ((fm_u g 185 2 c) 185 2 + (nI i105) - 10)), (6, .int (nI i105)), (5, .int (nI i103)), (0, .ref 185), (1, .int c), (2, .int (nI D)), (3, .int f), (4, .int t)]) (stk' := [.int (nI i105), .ref 187, .int (nI i105), .ref 187]) (mem' := cx (fm_u g 185 2 c) l a be122 R) (fun _ _ _ => rfl) ?_
                  refine he_ldL (by rfl) (by rfl) (fx_inN (i := i105) (by omega) (by omega)) ?_
                  rw [show Int32.toNatClampNeg (nI i105) = i105 from nI_clamp (by omega)]
                  refine he_s 3 (pc' := 158) (lc' := [(9, .int (nI (i105 - 1))), (8, .int (nI (i105 + 1))), (7, .int ((fm_u g 185 2 c) 185 2 + (nI i105) - 10)), (6, .int (nI i105)), (5, .int (nI i103)), (0, .ref 185), (1, .int c), (2, .int (nI D)), (3, .int f), (4, .int t)]) (stk' := [.int (nI i105), .ref 186, .long (be122 187 i105), .int (nI i105), .ref 187]) (mem' := cx (fm_u g 185 2 c) l a be122 R) (fun _ _ _ => rfl) ?_
                  refine he_ldL (by rfl) (by rfl) (fx_inN (i := i105) (by omega) (by omega)) ?_
                  rw [show Int32.toNatClampNeg (nI i105) = i105 from nI_clamp (by omega)]
                  refine he_s 8 (pc' := 169) (lc' := [(9, .int (nI (i105 - 1))), (8, .int (nI (i105 + 1))), (7, .int ((fm_u g 185 2 c) 185 2 + (nI i105) - 10)), (6, .int (nI i105)), (5, .int (nI i103)), (0, .ref 185), (1, .int c), (2, .int (nI D)), (3, .int f), (4, .int t)]) (stk' := [.long ((be122 187 i105) + ((be122 186 i105) * (((16 - f) - t).toInt64))), .int (nI i105), .ref 187]) (mem' := cx (fm_u g 185 2 c) l a be122 R) (fun _ _ _ => rfl) ?_
                  refine he_stL (mem' := cx (fm_u g 185 2 c) l a (fm_uf be122 187 (vp_updL (be122 187) (nI i105 : Int32).toNatClampNeg ((be122 187 i105) + ((be122 186 i105) * (((16 - f) - t).toInt64))))) R) (by rfl) (by rfl) (fx_inN (i := i105) (by omega) (by omega)) (by rfl) ?_
                  rw [show Int32.toNatClampNeg (nI i105) = i105 from nI_clamp (by omega)]
                  obtain ⟨be123, hbe123, ebe123⟩ : ∃ z : Nat → Nat → Int64, (∀ j, j ≠ 186 → j ≠ 187 → z j = b j) ∧ (fm_uf be122 187 (vp_updL (be122 187) i105 ((be122 187 i105) + ((be122 186 i105) * (((16 - f) - t).toInt64))))) = z := ⟨_, fun j p1 p2 => (fm_uf_n p2).trans (hbe122 j p1 p2), rfl⟩
                  rw [ebe123]
                  refine he_s 1 (pc' := 173) (lc' := [(6, .int ((nI i105) + 1)), (9, .int (nI (i105 - 1))), (8, .int (nI (i105 + 1))), (7, .int ((fm_u g 185 2 c) 185 2 + (nI i105) - 10)), (5, .int (nI i103)), (0, .ref 185), (1, .int c), (2, .int (nI D)), (3, .int f), (4, .int t)]) (stk' := []) (mem' := cx (fm_u g 185 2 c) l a be123 R) (fun _ _ _ => rfl) ?_
                  rw [show ((nI i105) + 1 : Int32) = nI (i105 + 1) from by simp only [show (1 : Int32) = nI 1 from rfl, nI_add, fm_mul]]
                  refine he_s 1 (pc' := fx_to 173 (-132)) (lc' := [(6, .int (nI (i105 + 1))), (9, .int (nI (i105 - 1))), (8, .int (nI (i105 + 1))), (7, .int ((fm_u g 185 2 c) 185 2 + (nI i105) - 10)), (5, .int (nI i103)), (0, .ref 185), (1, .int c), (2, .int (nI D)), (3, .int f), (4, .int t)]) (stk' := []) (mem' := cx (fm_u g 185 2 c) l a be123 R) (fun _ _ _ => rfl) ?_
                  rw [show fx_to 173 (-132) = 41 from by decide]
                  refine he_w (lc' := [(6, .int (nI (i105 + 1))), (5, .int (nI i103)), (0, .ref 185), (1, .int c), (2, .int (nI D)), (3, .int f), (4, .int t)]) ⟨rfl, rfl, rfl, rfl, rfl, rfl, rfl, trivial⟩ (by show List.Nodup [6, 5, 0, 1, 2, 3, 4]; decide) (by show List.Nodup [6, 9, 8, 7, 5, 0, 1, 2, 3, 4]; decide) ?_
                  exact ih105 (i105 + 1) (by omega) _ hbe123
              · refine he_s 6 (pc' := 110) (lc' := [(9, .int (nI i105)), (8, .int (nI (i105 + 1))), (7, .int ((fm_u g 185 2 c) 185 2 + (nI i105) - 10)), (6, .int (nI i105)), (5, .int (nI i103)), (0, .ref 185), (1, .int c), (2, .int (nI D)), (3, .int f), (4, .int t)]) (stk' := [.int (nI (i105 + 1)), .ref 187, .int (nI (i105 + 1)), .ref 187]) (mem' := cx (fm_u g 185 2 c) l a b105 R) (fun _ _ _ => rfl) ?_
                refine he_ldL (by rfl) (by rfl) (fx_inN (i := i105 + 1) (by omega) (by omega)) ?_
                rw [show Int32.toNatClampNeg (nI (i105 + 1)) = i105 + 1 from nI_clamp (by omega)]
                refine he_s 3 (pc' := 117) (lc' := [(9, .int (nI i105)), (8, .int (nI (i105 + 1))), (7, .int ((fm_u g 185 2 c) 185 2 + (nI i105) - 10)), (6, .int (nI i105)), (5, .int (nI i103)), (0, .ref 185), (1, .int c), (2, .int (nI D)), (3, .int f), (4, .int t)]) (stk' := [.int (nI i105), .ref 186, .long (b105 187 (i105 + 1)), .int (nI (i105 + 1)), .ref 187]) (mem' := cx (fm_u g 185 2 c) l a b105 R) (fun _ _ _ => rfl) ?_
                refine he_ldL (by rfl) (by rfl) (fx_inN (i := i105) (by omega) (by omega)) ?_
                rw [show Int32.toNatClampNeg (nI i105) = i105 from nI_clamp (by omega)]
                refine he_s 4 (pc' := 122) (lc' := [(9, .int (nI i105)), (8, .int (nI (i105 + 1))), (7, .int ((fm_u g 185 2 c) 185 2 + (nI i105) - 10)), (6, .int (nI i105)), (5, .int (nI i103)), (0, .ref 185), (1, .int c), (2, .int (nI D)), (3, .int f), (4, .int t)]) (stk' := [.long ((b105 187 (i105 + 1)) + ((b105 186 i105) * (f.toInt64))), .int (nI (i105 + 1)), .ref 187]) (mem' := cx (fm_u g 185 2 c) l a b105 R) (fun _ _ _ => rfl) ?_
                refine he_stL (mem' := cx (fm_u g 185 2 c) l a (fm_uf b105 187 (vp_updL (b105 187) (nI (i105 + 1) : Int32).toNatClampNeg ((b105 187 (i105 + 1)) + ((b105 186 i105) * (f.toInt64))))) R) (by rfl) (by rfl) (fx_inN (i := i105 + 1) (by omega) (by omega)) (by rfl) ?_
                rw [show Int32.toNatClampNeg (nI (i105 + 1)) = i105 + 1 from nI_clamp (by omega)]
                obtain ⟨be124, hbe124, ebe124⟩ : ∃ z : Nat → Nat → Int64, (∀ j, j ≠ 186 → j ≠ 187 → z j = b j) ∧ (fm_uf b105 187 (vp_updL (b105 187) (i105 + 1) ((b105 187 (i105 + 1)) + ((b105 186 i105) * (f.toInt64))))) = z := ⟨_, fun j p1 p2 => (fm_uf_n p2).trans (hb105 j p1 p2), rfl⟩
                rw [ebe124]
                refine he_s 4 (pc' := 130) (lc' := [(9, .int (nI i105)), (8, .int (nI (i105 + 1))), (7, .int ((fm_u g 185 2 c) 185 2 + (nI i105) - 10)), (6, .int (nI i105)), (5, .int (nI i103)), (0, .ref 185), (1, .int c), (2, .int (nI D)), (3, .int f), (4, .int t)]) (stk' := [.int (nI i105), .ref 187, .int (nI i105), .ref 187]) (mem' := cx (fm_u g 185 2 c) l a be124 R) (fun _ _ _ => rfl) ?_
                refine he_ldL (by rfl) (by rfl) (fx_inN (i := i105) (by omega) (by omega)) ?_
                rw [show Int32.toNatClampNeg (nI i105) = i105 from nI_clamp (by omega)]
                refine he_s 3 (pc' := 137) (lc' := [(9, .int (nI i105)), (8, .int (nI (i105 + 1))), (7, .int ((fm_u g 185 2 c) 185 2 + (nI i105) - 10)), (6, .int (nI i105)), (5, .int (nI i103)), (0, .ref 185), (1, .int c), (2, .int (nI D)), (3, .int f), (4, .int t)]) (stk' := [.int (nI i105), .ref 186, .long (be124 187 i105), .int (nI i105), .ref 187]) (mem' := cx (fm_u g 185 2 c) l a be124 R) (fun _ _ _ => rfl) ?_
                refine he_ldL (by rfl) (by rfl) (fx_inN (i := i105) (by omega) (by omega)) ?_
                rw [show Int32.toNatClampNeg (nI i105) = i105 from nI_clamp (by omega)]
                refine he_s 4 (pc' := 143) (lc' := [(9, .int (nI i105)), (8, .int (nI (i105 + 1))), (7, .int ((fm_u g 185 2 c) 185 2 + (nI i105) - 10)), (6, .int (nI i105)), (5, .int (nI i103)), (0, .ref 185), (1, .int c), (2, .int (nI D)), (3, .int f), (4, .int t)]) (stk' := [.long ((be124 187 i105) + ((be124 186 i105) * (t.toInt64))), .int (nI i105), .ref 187]) (mem' := cx (fm_u g 185 2 c) l a be124 R) (fun _ _ _ => rfl) ?_
                refine he_stL (mem' := cx (fm_u g 185 2 c) l a (fm_uf be124 187 (vp_updL (be124 187) (nI i105 : Int32).toNatClampNeg ((be124 187 i105) + ((be124 186 i105) * (t.toInt64))))) R) (by rfl) (by rfl) (fx_inN (i := i105) (by omega) (by omega)) (by rfl) ?_
                rw [show Int32.toNatClampNeg (nI i105) = i105 from nI_clamp (by omega)]
                obtain ⟨be125, hbe125, ebe125⟩ : ∃ z : Nat → Nat → Int64, (∀ j, j ≠ 186 → j ≠ 187 → z j = b j) ∧ (fm_uf be124 187 (vp_updL (be124 187) i105 ((be124 187 i105) + ((be124 186 i105) * (t.toInt64))))) = z := ⟨_, fun j p1 p2 => (fm_uf_n p2).trans (hbe124 j p1 p2), rfl⟩
                rw [ebe125]
                refine he_s 4 (pc' := 151) (lc' := [(9, .int (nI i105)), (8, .int (nI (i105 + 1))), (7, .int ((fm_u g 185 2 c) 185 2 + (nI i105) - 10)), (6, .int (nI i105)), (5, .int (nI i103)), (0, .ref 185), (1, .int c), (2, .int (nI D)), (3, .int f), (4, .int t)]) (stk' := [.int (nI i105), .ref 187, .int (nI i105), .ref 187]) (mem' := cx (fm_u g 185 2 c) l a be125 R) (fun _ _ _ => rfl) ?_
                refine he_ldL (by rfl) (by rfl) (fx_inN (i := i105) (by omega) (by omega)) ?_
                rw [show Int32.toNatClampNeg (nI i105) = i105 from nI_clamp (by omega)]
                refine he_s 3 (pc' := 158) (lc' := [(9, .int (nI i105)), (8, .int (nI (i105 + 1))), (7, .int ((fm_u g 185 2 c) 185 2 + (nI i105) - 10)), (6, .int (nI i105)), (5, .int (nI i103)), (0, .ref 185), (1, .int c), (2, .int (nI D)), (3, .int f), (4, .int t)]) (stk' := [.int (nI i105), .ref 186, .long (be125 187 i105), .int (nI i105), .ref 187]) (mem' := cx (fm_u g 185 2 c) l a be125 R) (fun _ _ _ => rfl) ?_
                refine he_ldL (by rfl) (by rfl) (fx_inN (i := i105) (by omega) (by omega)) ?_
                rw [show Int32.toNatClampNeg (nI i105) = i105 from nI_clamp (by omega)]
                refine he_s 8 (pc' := 169) (lc' := [(9, .int (nI i105)), (8, .int (nI (i105 + 1))), (7, .int ((fm_u g 185 2 c) 185 2 + (nI i105) - 10)), (6, .int (nI i105)), (5, .int (nI i103)), (0, .ref 185), (1, .int c), (2, .int (nI D)), (3, .int f), (4, .int t)]) (stk' := [.long ((be125 187 i105) + ((be125 186 i105) * (((16 - f) - t).toInt64))), .int (nI i105), .ref 187]) (mem' := cx (fm_u g 185 2 c) l a be125 R) (fun _ _ _ => rfl) ?_
                refine he_stL (mem' := cx (fm_u g 185 2 c) l a (fm_uf be125 187 (vp_updL (be125 187) (nI i105 : Int32).toNatClampNeg ((be125 187 i105) + ((be125 186 i105) * (((16 - f) - t).toInt64))))) R) (by rfl) (by rfl) (fx_inN (i := i105) (by omega) (by omega)) (by rfl) ?_
                rw [show Int32.toNatClampNeg (nI i105) = i105 from nI_clamp (by omega)]
                obtain ⟨be126, hbe126, ebe126⟩ : ∃ z : Nat → Nat → Int64, (∀ j, j ≠ 186 → j ≠ 187 → z j = b j) ∧ (fm_uf be125 187 (vp_updL (be125 187) i105 ((be125 187 i105) + ((be125 186 i105) * (((16 - f) - t).toInt64))))) = z := ⟨_, fun j p1 p2 => (fm_uf_n p2).trans (hbe125 j p1 p2), rfl⟩
                rw [ebe126]
                refine he_s 1 (pc' := 173) (lc' := [(6, .int ((nI i105) + 1)), (9, .int (nI i105)), (8, .int (nI (i105 + 1))), (7, .int ((fm_u g 185 2 c) 185 2 + (nI i105) - 10)), (5, .int (nI i103)), (0, .ref 185), (1, .int c), (2, .int (nI D)), (3, .int f), (4, .int t)]) (stk' := []) (mem' := cx (fm_u g 185 2 c) l a be126 R) (fun _ _ _ => rfl) ?_
                rw [show ((nI i105) + 1 : Int32) = nI (i105 + 1) from by simp only [show (1 : Int32) = nI 1 from rfl, nI_add, fm_mul]]
                refine he_s 1 (pc' := fx_to 173 (-132)) (lc' := [(6, .int (nI (i105 + 1))), (9, .int (nI i105)), (8, .int (nI (i105 + 1))), (7, .int ((fm_u g 185 2 c) 185 2 + (nI i105) - 10)), (5, .int (nI i103)), (0, .ref 185), (1, .int c), (2, .int (nI D)), (3, .int f), (4, .int t)]) (stk' := []) (mem' := cx (fm_u g 185 2 c) l a be126 R) (fun _ _ _ => rfl) ?_
                rw [show fx_to 173 (-132) = 41 from by decide]
                refine he_w (lc' := [(6, .int (nI (i105 + 1))), (5, .int (nI i103)), (0, .ref 185), (1, .int c), (2, .int (nI D)), (3, .int f), (4, .int t)]) ⟨rfl, rfl, rfl, rfl, rfl, rfl, rfl, trivial⟩ (by show List.Nodup [6, 5, 0, 1, 2, 3, 4]; decide) (by show List.Nodup [6, 9, 8, 7, 5, 0, 1, 2, 3, 4]; decide) ?_
                exact ih105 (i105 + 1) (by omega) _ hbe126
          · refine he_s 3 (pc' := 84) (lc' := [(8, .int (nI i105)), (7, .int ((fm_u g 185 2 c) 185 2 + (nI i105) - 10)), (6, .int (nI i105)), (5, .int (nI i103)), (0, .ref 185), (1, .int c), (2, .int (nI D)), (3, .int f), (4, .int t)]) (stk' := [.int ((fm_u g 185 2 c) 185 2 + (nI i105) - 10)]) (mem' := cx (fm_u g 185 2 c) l a b105 R) (fun _ _ _ => rfl) ?_
            refine he_s 1 (pc' := cond (fx_cb .le ((fm_u g 185 2 c) 185 2 + (nI i105) - 10) 0) 99 87) (lc' := [(8, .int (nI i105)), (7, .int ((fm_u g 185 2 c) 185 2 + (nI i105) - 10)), (6, .int (nI i105)), (5, .int (nI i103)), (0, .ref 185), (1, .int c), (2, .int (nI D)), (3, .int f), (4, .int t)]) (stk' := []) (mem' := cx (fm_u g 185 2 c) l a b105 R) (fun _ _ _ => rfl) ?_
            cases y127 : fx_cb .le ((fm_u g 185 2 c) 185 2 + (nI i105) - 10) 0
            · refine he_s 1 (pc' := 89) (lc' := [(8, .int (nI i105)), (7, .int ((fm_u g 185 2 c) 185 2 + (nI i105) - 10)), (6, .int (nI i105)), (5, .int (nI i103)), (0, .ref 185), (1, .int c), (2, .int (nI D)), (3, .int f), (4, .int t)]) (stk' := [.int (nI i105)]) (mem' := cx (fm_u g 185 2 c) l a b105 R) (fun _ _ _ => rfl) ?_
              refine he_s 1 (pc' := cond (fx_cb .le (nI i105) 0) 99 92) (lc' := [(8, .int (nI i105)), (7, .int ((fm_u g 185 2 c) 185 2 + (nI i105) - 10)), (6, .int (nI i105)), (5, .int (nI i103)), (0, .ref 185), (1, .int c), (2, .int (nI D)), (3, .int f), (4, .int t)]) (stk' := []) (mem' := cx (fm_u g 185 2 c) l a b105 R) (fun _ _ _ => rfl) ?_
              by_cases y128 : i105 ≤ 0
              · rw [show (fx_cb .le (nI i105) 0) = true from cb_leT (a := i105) (b := 0) (by omega) (by omega) (by omega)]
                dsimp only [cond]
                refine he_s 6 (pc' := 110) (lc' := [(9, .int (nI i105)), (8, .int (nI i105)), (7, .int ((fm_u g 185 2 c) 185 2 + (nI i105) - 10)), (6, .int (nI i105)), (5, .int (nI i103)), (0, .ref 185), (1, .int c), (2, .int (nI D)), (3, .int f), (4, .int t)]) (stk' := [.int (nI i105), .ref 187, .int (nI i105), .ref 187]) (mem' := cx (fm_u g 185 2 c) l a b105 R) (fun _ _ _ => rfl) ?_
                refine he_ldL (by rfl) (by rfl) (fx_inN (i := i105) (by omega) (by omega)) ?_
                rw [show Int32.toNatClampNeg (nI i105) = i105 from nI_clamp (by omega)]
                refine he_s 3 (pc' := 117) (lc' := [(9, .int (nI i105)), (8, .int (nI i105)), (7, .int ((fm_u g 185 2 c) 185 2 + (nI i105) - 10)), (6, .int (nI i105)), (5, .int (nI i103)), (0, .ref 185), (1, .int c), (2, .int (nI D)), (3, .int f), (4, .int t)]) (stk' := [.int (nI i105), .ref 186, .long (b105 187 i105), .int (nI i105), .ref 187]) (mem' := cx (fm_u g 185 2 c) l a b105 R) (fun _ _ _ => rfl) ?_
                refine he_ldL (by rfl) (by rfl) (fx_inN (i := i105) (by omega) (by omega)) ?_
                rw [show Int32.toNatClampNeg (nI i105) = i105 from nI_clamp (by omega)]
                refine he_s 4 (pc' := 122) (lc' := [(9, .int (nI i105)), (8, .int (nI i105)), (7, .int ((fm_u g 185 2 c) 185 2 + (nI i105) - 10)), (6, .int (nI i105)), (5, .int (nI i103)), (0, .ref 185), (1, .int c), (2, .int (nI D)), (3, .int f), (4, .int t)]) (stk' := [.long ((b105 187 i105) + ((b105 186 i105) * (f.toInt64))), .int (nI i105), .ref 187]) (mem' := cx (fm_u g 185 2 c) l a b105 R) (fun _ _ _ => rfl) ?_
                refine he_stL (mem' := cx (fm_u g 185 2 c) l a (fm_uf b105 187 (vp_updL (b105 187) (nI i105 : Int32).toNatClampNeg ((b105 187 i105) + ((b105 186 i105) * (f.toInt64))))) R) (by rfl) (by rfl) (fx_inN (i := i105) (by omega) (by omega)) (by rfl) ?_
                rw [show Int32.toNatClampNeg (nI i105) = i105 from nI_clamp (by omega)]
                obtain ⟨be129, hbe129, ebe129⟩ : ∃ z : Nat → Nat → Int64, (∀ j, j ≠ 186 → j ≠ 187 → z j = b j) ∧ (fm_uf b105 187 (vp_updL (b105 187) i105 ((b105 187 i105) + ((b105 186 i105) * (f.toInt64))))) = z := ⟨_, fun j p1 p2 => (fm_uf_n p2).trans (hb105 j p1 p2), rfl⟩
                rw [ebe129]
                refine he_s 4 (pc' := 130) (lc' := [(9, .int (nI i105)), (8, .int (nI i105)), (7, .int ((fm_u g 185 2 c) 185 2 + (nI i105) - 10)), (6, .int (nI i105)), (5, .int (nI i103)), (0, .ref 185), (1, .int c), (2, .int (nI D)), (3, .int f), (4, .int t)]) (stk' := [.int (nI i105), .ref 187, .int (nI i105), .ref 187]) (mem' := cx (fm_u g 185 2 c) l a be129 R) (fun _ _ _ => rfl) ?_
                refine he_ldL (by rfl) (by rfl) (fx_inN (i := i105) (by omega) (by omega)) ?_
                rw [show Int32.toNatClampNeg (nI i105) = i105 from nI_clamp (by omega)]
                refine he_s 3 (pc' := 137) (lc' := [(9, .int (nI i105)), (8, .int (nI i105)), (7, .int ((fm_u g 185 2 c) 185 2 + (nI i105) - 10)), (6, .int (nI i105)), (5, .int (nI i103)), (0, .ref 185), (1, .int c), (2, .int (nI D)), (3, .int f), (4, .int t)]) (stk' := [.int (nI i105), .ref 186, .long (be129 187 i105), .int (nI i105), .ref 187]) (mem' := cx (fm_u g 185 2 c) l a be129 R) (fun _ _ _ => rfl) ?_
                refine he_ldL (by rfl) (by rfl) (fx_inN (i := i105) (by omega) (by omega)) ?_
                rw [show Int32.toNatClampNeg (nI i105) = i105 from nI_clamp (by omega)]
                refine he_s 4 (pc' := 143) (lc' := [(9, .int (nI i105)), (8, .int (nI i105)), (7, .int ((fm_u g 185 2 c) 185 2 + (nI i105) - 10)), (6, .int (nI i105)), (5, .int (nI i103)), (0, .ref 185), (1, .int c), (2, .int (nI D)), (3, .int f), (4, .int t)]) (stk' := [.long ((be129 187 i105) + ((be129 186 i105) * (t.toInt64))), .int (nI i105), .ref 187]) (mem' := cx (fm_u g 185 2 c) l a be129 R) (fun _ _ _ => rfl) ?_
                refine he_stL (mem' := cx (fm_u g 185 2 c) l a (fm_uf be129 187 (vp_updL (be129 187) (nI i105 : Int32).toNatClampNeg ((be129 187 i105) + ((be129 186 i105) * (t.toInt64))))) R) (by rfl) (by rfl) (fx_inN (i := i105) (by omega) (by omega)) (by rfl) ?_
                rw [show Int32.toNatClampNeg (nI i105) = i105 from nI_clamp (by omega)]
                obtain ⟨be130, hbe130, ebe130⟩ : ∃ z : Nat → Nat → Int64, (∀ j, j ≠ 186 → j ≠ 187 → z j = b j) ∧ (fm_uf be129 187 (vp_updL (be129 187) i105 ((be129 187 i105) + ((be129 186 i105) * (t.toInt64))))) = z := ⟨_, fun j p1 p2 => (fm_uf_n p2).trans (hbe129 j p1 p2), rfl⟩
                rw [ebe130]
                refine he_s 4 (pc' := 151) (lc' := [(9, .int (nI i105)), (8, .int (nI i105)), (7, .int ((fm_u g 185 2 c) 185 2 + (nI i105) - 10)), (6, .int (nI i105)), (5, .int (nI i103)), (0, .ref 185), (1, .int c), (2, .int (nI D)), (3, .int f), (4, .int t)]) (stk' := [.int (nI i105), .ref 187, .int (nI i105), .ref 187]) (mem' := cx (fm_u g 185 2 c) l a be130 R) (fun _ _ _ => rfl) ?_
                refine he_ldL (by rfl) (by rfl) (fx_inN (i := i105) (by omega) (by omega)) ?_
                rw [show Int32.toNatClampNeg (nI i105) = i105 from nI_clamp (by omega)]
                refine he_s 3 (pc' := 158) (lc' := [(9, .int (nI i105)), (8, .int (nI i105)), (7, .int ((fm_u g 185 2 c) 185 2 + (nI i105) - 10)), (6, .int (nI i105)), (5, .int (nI i103)), (0, .ref 185), (1, .int c), (2, .int (nI D)), (3, .int f), (4, .int t)]) (stk' := [.int (nI i105), .ref 186, .long (be130 187 i105), .int (nI i105), .ref 187]) (mem' := cx (fm_u g 185 2 c) l a be130 R) (fun _ _ _ => rfl) ?_
                refine he_ldL (by rfl) (by rfl) (fx_inN (i := i105) (by omega) (by omega)) ?_
                rw [show Int32.toNatClampNeg (nI i105) = i105 from nI_clamp (by omega)]
                refine he_s 8 (pc' := 169) (lc' := [(9, .int (nI i105)), (8, .int (nI i105)), (7, .int ((fm_u g 185 2 c) 185 2 + (nI i105) - 10)), (6, .int (nI i105)), (5, .int (nI i103)), (0, .ref 185), (1, .int c), (2, .int (nI D)), (3, .int f), (4, .int t)]) (stk' := [.long ((be130 187 i105) + ((be130 186 i105) * (((16 - f) - t).toInt64))), .int (nI i105), .ref 187]) (mem' := cx (fm_u g 185 2 c) l a be130 R) (fun _ _ _ => rfl) ?_
                refine he_stL (mem' := cx (fm_u g 185 2 c) l a (fm_uf be130 187 (vp_updL (be130 187) (nI i105 : Int32).toNatClampNeg ((be130 187 i105) + ((be130 186 i105) * (((16 - f) - t).toInt64))))) R) (by rfl) (by rfl) (fx_inN (i := i105) (by omega) (by omega)) (by rfl) ?_
                rw [show Int32.toNatClampNeg (nI i105) = i105 from nI_clamp (by omega)]
                obtain ⟨be131, hbe131, ebe131⟩ : ∃ z : Nat → Nat → Int64, (∀ j, j ≠ 186 → j ≠ 187 → z j = b j) ∧ (fm_uf be130 187 (vp_updL (be130 187) i105 ((be130 187 i105) + ((be130 186 i105) * (((16 - f) - t).toInt64))))) = z := ⟨_, fun j p1 p2 => (fm_uf_n p2).trans (hbe130 j p1 p2), rfl⟩
                rw [ebe131]
                refine he_s 1 (pc' := 173) (lc' := [(6, .int ((nI i105) + 1)), (9, .int (nI i105)), (8, .int (nI i105)), (7, .int ((fm_u g 185 2 c) 185 2 + (nI i105) - 10)), (5, .int (nI i103)), (0, .ref 185), (1, .int c), (2, .int (nI D)), (3, .int f), (4, .int t)]) (stk' := []) (mem' := cx (fm_u g 185 2 c) l a be131 R) (fun _ _ _ => rfl) ?_
                rw [show ((nI i105) + 1 : Int32) = nI (i105 + 1) from by simp only [show (1 : Int32) = nI 1 from rfl, nI_add, fm_mul]]
                refine he_s 1 (pc' := fx_to 173 (-132)) (lc' := [(6, .int (nI (i105 + 1))), (9, .int (nI i105)), (8, .int (nI i105)), (7, .int ((fm_u g 185 2 c) 185 2 + (nI i105) - 10)), (5, .int (nI i103)), (0, .ref 185), (1, .int c), (2, .int (nI D)), (3, .int f), (4, .int t)]) (stk' := []) (mem' := cx (fm_u g 185 2 c) l a be131 R) (fun _ _ _ => rfl) ?_
                rw [show fx_to 173 (-132) = 41 from by decide]
                refine he_w (lc' := [(6, .int (nI (i105 + 1))), (5, .int (nI i103)), (0, .ref 185), (1, .int c), (2, .int (nI D)), (3, .int f), (4, .int t)]) ⟨rfl, rfl, rfl, rfl, rfl, rfl, rfl, trivial⟩ (by show List.Nodup [6, 5, 0, 1, 2, 3, 4]; decide) (by show List.Nodup [6, 9, 8, 7, 5, 0, 1, 2, 3, 4]; decide) ?_
                exact ih105 (i105 + 1) (by omega) _ hbe131
              · rw [show (fx_cb .le (nI i105) 0) = false from cb_leF (a := i105) (b := 0) (by omega) (by omega) (by omega)]
                dsimp only [cond]
                refine he_s 9 (pc' := 110) (lc' := [(9, .int ((nI i105) - 1)), (8, .int (nI i105)), (7, .int ((fm_u g 185 2 c) 185 2 + (nI i105) - 10)), (6, .int (nI i105)), (5, .int (nI i103)), (0, .ref 185), (1, .int c), (2, .int (nI D)), (3, .int f), (4, .int t)]) (stk' := [.int (nI i105), .ref 187, .int (nI i105), .ref 187]) (mem' := cx (fm_u g 185 2 c) l a b105 R) (fun _ _ _ => rfl) ?_
                rw [show ((nI i105) - 1 : Int32) = nI (i105 - 1) from by simp only [show (1 : Int32) = nI 1 from rfl, tg_sub2 (x := i105) (y := 1) (by omega), nI_add, fm_mul]]
                refine he_ldL (by rfl) (by rfl) (fx_inN (i := i105) (by omega) (by omega)) ?_
                rw [show Int32.toNatClampNeg (nI i105) = i105 from nI_clamp (by omega)]
                refine he_s 3 (pc' := 117) (lc' := [(9, .int (nI (i105 - 1))), (8, .int (nI i105)), (7, .int ((fm_u g 185 2 c) 185 2 + (nI i105) - 10)), (6, .int (nI i105)), (5, .int (nI i103)), (0, .ref 185), (1, .int c), (2, .int (nI D)), (3, .int f), (4, .int t)]) (stk' := [.int (nI i105), .ref 186, .long (b105 187 i105), .int (nI i105), .ref 187]) (mem' := cx (fm_u g 185 2 c) l a b105 R) (fun _ _ _ => rfl) ?_
                refine he_ldL (by rfl) (by rfl) (fx_inN (i := i105) (by omega) (by omega)) ?_
                rw [show Int32.toNatClampNeg (nI i105) = i105 from nI_clamp (by omega)]
                refine he_s 4 (pc' := 122) (lc' := [(9, .int (nI (i105 - 1))), (8, .int (nI i105)), (7, .int ((fm_u g 185 2 c) 185 2 + (nI i105) - 10)), (6, .int (nI i105)), (5, .int (nI i103)), (0, .ref 185), (1, .int c), (2, .int (nI D)), (3, .int f), (4, .int t)]) (stk' := [.long ((b105 187 i105) + ((b105 186 i105) * (f.toInt64))), .int (nI i105), .ref 187]) (mem' := cx (fm_u g 185 2 c) l a b105 R) (fun _ _ _ => rfl) ?_
                refine he_stL (mem' := cx (fm_u g 185 2 c) l a (fm_uf b105 187 (vp_updL (b105 187) (nI i105 : Int32).toNatClampNeg ((b105 187 i105) + ((b105 186 i105) * (f.toInt64))))) R) (by rfl) (by rfl) (fx_inN (i := i105) (by omega) (by omega)) (by rfl) ?_
                rw [show Int32.toNatClampNeg (nI i105) = i105 from nI_clamp (by omega)]
                obtain ⟨be132, hbe132, ebe132⟩ : ∃ z : Nat → Nat → Int64, (∀ j, j ≠ 186 → j ≠ 187 → z j = b j) ∧ (fm_uf b105 187 (vp_updL (b105 187) i105 ((b105 187 i105) + ((b105 186 i105) * (f.toInt64))))) = z := ⟨_, fun j p1 p2 => (fm_uf_n p2).trans (hb105 j p1 p2), rfl⟩
                rw [ebe132]
                refine he_s 4 (pc' := 130) (lc' := [(9, .int (nI (i105 - 1))), (8, .int (nI i105)), (7, .int ((fm_u g 185 2 c) 185 2 + (nI i105) - 10)), (6, .int (nI i105)), (5, .int (nI i103)), (0, .ref 185), (1, .int c), (2, .int (nI D)), (3, .int f), (4, .int t)]) (stk' := [.int (nI (i105 - 1)), .ref 187, .int (nI (i105 - 1)), .ref 187]) (mem' := cx (fm_u g 185 2 c) l a be132 R) (fun _ _ _ => rfl) ?_
                refine he_ldL (by rfl) (by rfl) (fx_inN (i := i105 - 1) (by omega) (by omega)) ?_
                rw [show Int32.toNatClampNeg (nI (i105 - 1)) = i105 - 1 from nI_clamp (by omega)]
                refine he_s 3 (pc' := 137) (lc' := [(9, .int (nI (i105 - 1))), (8, .int (nI i105)), (7, .int ((fm_u g 185 2 c) 185 2 + (nI i105) - 10)), (6, .int (nI i105)), (5, .int (nI i103)), (0, .ref 185), (1, .int c), (2, .int (nI D)), (3, .int f), (4, .int t)]) (stk' := [.int (nI i105), .ref 186, .long (be132 187 (i105 - 1)), .int (nI (i105 - 1)), .ref 187]) (mem' := cx (fm_u g 185 2 c) l a be132 R) (fun _ _ _ => rfl) ?_
                refine he_ldL (by rfl) (by rfl) (fx_inN (i := i105) (by omega) (by omega)) ?_
                rw [show Int32.toNatClampNeg (nI i105) = i105 from nI_clamp (by omega)]
                refine he_s 4 (pc' := 143) (lc' := [(9, .int (nI (i105 - 1))), (8, .int (nI i105)), (7, .int ((fm_u g 185 2 c) 185 2 + (nI i105) - 10)), (6, .int (nI i105)), (5, .int (nI i103)), (0, .ref 185), (1, .int c), (2, .int (nI D)), (3, .int f), (4, .int t)]) (stk' := [.long ((be132 187 (i105 - 1)) + ((be132 186 i105) * (t.toInt64))), .int (nI (i105 - 1)), .ref 187]) (mem' := cx (fm_u g 185 2 c) l a be132 R) (fun _ _ _ => rfl) ?_
                refine he_stL (mem' := cx (fm_u g 185 2 c) l a (fm_uf be132 187 (vp_updL (be132 187) (nI (i105 - 1) : Int32).toNatClampNeg ((be132 187 (i105 - 1)) + ((be132 186 i105) * (t.toInt64))))) R) (by rfl) (by rfl) (fx_inN (i := i105 - 1) (by omega) (by omega)) (by rfl) ?_
                rw [show Int32.toNatClampNeg (nI (i105 - 1)) = i105 - 1 from nI_clamp (by omega)]
                obtain ⟨be133, hbe133, ebe133⟩ : ∃ z : Nat → Nat → Int64, (∀ j, j ≠ 186 → j ≠ 187 → z j = b j) ∧ (fm_uf be132 187 (vp_updL (be132 187) (i105 - 1) ((be132 187 (i105 - 1)) + ((be132 186 i105) * (t.toInt64))))) = z := ⟨_, fun j p1 p2 => (fm_uf_n p2).trans (hbe132 j p1 p2), rfl⟩
                rw [ebe133]
                refine he_s 4 (pc' := 151) (lc' := [(9, .int (nI (i105 - 1))), (8, .int (nI i105)), (7, .int ((fm_u g 185 2 c) 185 2 + (nI i105) - 10)), (6, .int (nI i105)), (5, .int (nI i103)), (0, .ref 185), (1, .int c), (2, .int (nI D)), (3, .int f), (4, .int t)]) (stk' := [.int (nI i105), .ref 187, .int (nI i105), .ref 187]) (mem' := cx (fm_u g 185 2 c) l a be133 R) (fun _ _ _ => rfl) ?_
                refine he_ldL (by rfl) (by rfl) (fx_inN (i := i105) (by omega) (by omega)) ?_
                rw [show Int32.toNatClampNeg (nI i105) = i105 from nI_clamp (by omega)]
                refine he_s 3 (pc' := 158) (lc' := [(9, .int (nI (i105 - 1))), (8, .int (nI i105)), (7, .int ((fm_u g 185 2 c) 185 2 + (nI i105) - 10)), (6, .int (nI i105)), (5, .int (nI i103)), (0, .ref 185), (1, .int c), (2, .int (nI D)), (3, .int f), (4, .int t)]) (stk' := [.int (nI i105), .ref 186, .long (be133 187 i105), .int (nI i105), .ref 187]) (mem' := cx (fm_u g 185 2 c) l a be133 R) (fun _ _ _ => rfl) ?_
                refine he_ldL (by rfl) (by rfl) (fx_inN (i := i105) (by omega) (by omega)) ?_
                rw [show Int32.toNatClampNeg (nI i105) = i105 from nI_clamp (by omega)]
                refine he_s 8 (pc' := 169) (lc' := [(9, .int (nI (i105 - 1))), (8, .int (nI i105)), (7, .int ((fm_u g 185 2 c) 185 2 + (nI i105) - 10)), (6, .int (nI i105)), (5, .int (nI i103)), (0, .ref 185), (1, .int c), (2, .int (nI D)), (3, .int f), (4, .int t)]) (stk' := [.long ((be133 187 i105) + ((be133 186 i105) * (((16 - f) - t).toInt64))), .int (nI i105), .ref 187]) (mem' := cx (fm_u g 185 2 c) l a be133 R) (fun _ _ _ => rfl) ?_
                refine he_stL (mem' := cx (fm_u g 185 2 c) l a (fm_uf be133 187 (vp_updL (be133 187) (nI i105 : Int32).toNatClampNeg ((be133 187 i105) + ((be133 186 i105) * (((16 - f) - t).toInt64))))) R) (by rfl) (by rfl) (fx_inN (i := i105) (by omega) (by omega)) (by rfl) ?_
                rw [show Int32.toNatClampNeg (nI i105) = i105 from nI_clamp (by omega)]
                obtain ⟨be134, hbe134, ebe134⟩ : ∃ z : Nat → Nat → Int64, (∀ j, j ≠ 186 → j ≠ 187 → z j = b j) ∧ (fm_uf be133 187 (vp_updL (be133 187) i105 ((be133 187 i105) + ((be133 186 i105) * (((16 - f) - t).toInt64))))) = z := ⟨_, fun j p1 p2 => (fm_uf_n p2).trans (hbe133 j p1 p2), rfl⟩
                rw [ebe134]
                refine he_s 1 (pc' := 173) (lc' := [(6, .int ((nI i105) + 1)), (9, .int (nI (i105 - 1))), (8, .int (nI i105)), (7, .int ((fm_u g 185 2 c) 185 2 + (nI i105) - 10)), (5, .int (nI i103)), (0, .ref 185), (1, .int c), (2, .int (nI D)), (3, .int f), (4, .int t)]) (stk' := []) (mem' := cx (fm_u g 185 2 c) l a be134 R) (fun _ _ _ => rfl) ?_
                rw [show ((nI i105) + 1 : Int32) = nI (i105 + 1) from by simp only [show (1 : Int32) = nI 1 from rfl, nI_add, fm_mul]]
                refine he_s 1 (pc' := fx_to 173 (-132)) (lc' := [(6, .int (nI (i105 + 1))), (9, .int (nI (i105 - 1))), (8, .int (nI i105)), (7, .int ((fm_u g 185 2 c) 185 2 + (nI i105) - 10)), (5, .int (nI i103)), (0, .ref 185), (1, .int c), (2, .int (nI D)), (3, .int f), (4, .int t)]) (stk' := []) (mem' := cx (fm_u g 185 2 c) l a be134 R) (fun _ _ _ => rfl) ?_
                rw [show fx_to 173 (-132) = 41 from by decide]
                refine he_w (lc' := [(6, .int (nI (i105 + 1))), (5, .int (nI i103)), (0, .ref 185), (1, .int c), (2, .int (nI D)), (3, .int f), (4, .int t)]) ⟨rfl, rfl, rfl, rfl, rfl, rfl, rfl, trivial⟩ (by show List.Nodup [6, 5, 0, 1, 2, 3, 4]; decide) (by show List.Nodup [6, 9, 8, 7, 5, 0, 1, 2, 3, 4]; decide) ?_
                exact ih105 (i105 + 1) (by omega) _ hbe134
            · refine he_s 6 (pc' := 110) (lc' := [(9, .int (nI i105)), (8, .int (nI i105)), (7, .int ((fm_u g 185 2 c) 185 2 + (nI i105) - 10)), (6, .int (nI i105)), (5, .int (nI i103)), (0, .ref 185), (1, .int c), (2, .int (nI D)), (3, .int f), (4, .int t)]) (stk' := [.int (nI i105), .ref 187, .int (nI i105), .ref 187]) (mem' := cx (fm_u g 185 2 c) l a b105 R) (fun _ _ _ => rfl) ?_
              refine he_ldL (by rfl) (by rfl) (fx_inN (i := i105) (by omega) (by omega)) ?_
              rw [show Int32.toNatClampNeg (nI i105) = i105 from nI_clamp (by omega)]
              refine he_s 3 (pc' := 117) (lc' := [(9, .int (nI i105)), (8, .int (nI i105)), (7, .int ((fm_u g 185 2 c) 185 2 + (nI i105) - 10)), (6, .int (nI i105)), (5, .int (nI i103)), (0, .ref 185), (1, .int c), (2, .int (nI D)), (3, .int f), (4, .int t)]) (stk' := [.int (nI i105), .ref 186, .long (b105 187 i105), .int (nI i105), .ref 187]) (mem' := cx (fm_u g 185 2 c) l a b105 R) (fun _ _ _ => rfl) ?_
              refine he_ldL (by rfl) (by rfl) (fx_inN (i := i105) (by omega) (by omega)) ?_
              rw [show Int32.toNatClampNeg (nI i105) = i105 from nI_clamp (by omega)]
              refine he_s 4 (pc' := 122) (lc' := [(9, .int (nI i105)), (8, .int (nI i105)), (7, .int ((fm_u g 185 2 c) 185 2 + (nI i105) - 10)), (6, .int (nI i105)), (5, .int (nI i103)), (0, .ref 185), (1, .int c), (2, .int (nI D)), (3, .int f), (4, .int t)]) (stk' := [.long ((b105 187 i105) + ((b105 186 i105) * (f.toInt64))), .int (nI i105), .ref 187]) (mem' := cx (fm_u g 185 2 c) l a b105 R) (fun _ _ _ => rfl) ?_
              refine he_stL (mem' := cx (fm_u g 185 2 c) l a (fm_uf b105 187 (vp_updL (b105 187) (nI i105 : Int32).toNatClampNeg ((b105 187 i105) + ((b105 186 i105) * (f.toInt64))))) R) (by rfl) (by rfl) (fx_inN (i := i105) (by omega) (by omega)) (by rfl) ?_
              rw [show Int32.toNatClampNeg (nI i105) = i105 from nI_clamp (by omega)]
              obtain ⟨be135, hbe135, ebe135⟩ : ∃ z : Nat → Nat → Int64, (∀ j, j ≠ 186 → j ≠ 187 → z j = b j) ∧ (fm_uf b105 187 (vp_updL (b105 187) i105 ((b105 187 i105) + ((b105 186 i105) * (f.toInt64))))) = z := ⟨_, fun j p1 p2 => (fm_uf_n p2).trans (hb105 j p1 p2), rfl⟩
              rw [ebe135]
              refine he_s 4 (pc' := 130) (lc' := [(9, .int (nI i105)), (8, .int (nI i105)), (7, .int ((fm_u g 185 2 c) 185 2 + (nI i105) - 10)), (6, .int (nI i105)), (5, .int (nI i103)), (0, .ref 185), (1, .int c), (2, .int (nI D)), (3, .int f), (4, .int t)]) (stk' := [.int (nI i105), .ref 187, .int (nI i105), .ref 187]) (mem' := cx (fm_u g 185 2 c) l a be135 R) (fun _ _ _ => rfl) ?_
              refine he_ldL (by rfl) (by rfl) (fx_inN (i := i105) (by omega) (by omega)) ?_
              rw [show Int32.toNatClampNeg (nI i105) = i105 from nI_clamp (by omega)]
              refine he_s 3 (pc' := 137) (lc' := [(9, .int (nI i105)), (8, .int (nI i105)), (7, .int ((fm_u g 185 2 c) 185 2 + (nI i105) - 10)), (6, .int (nI i105)), (5, .int (nI i103)), (0, .ref 185), (1, .int c), (2, .int (nI D)), (3, .int f), (4, .int t)]) (stk' := [.int (nI i105), .ref 186, .long (be135 187 i105), .int (nI i105), .ref 187]) (mem' := cx (fm_u g 185 2 c) l a be135 R) (fun _ _ _ => rfl) ?_
              refine he_ldL (by rfl) (by rfl) (fx_inN (i := i105) (by omega) (by omega)) ?_
              rw [show Int32.toNatClampNeg (nI i105) = i105 from nI_clamp (by omega)]
              refine he_s 4 (pc' := 143) (lc' := [(9, .int (nI i105)), (8, .int (nI i105)), (7, .int ((fm_u g 185 2 c) 185 2 + (nI i105) - 10)), (6, .int (nI i105)), (5, .int (nI i103)), (0, .ref 185), (1, .int c), (2, .int (nI D)), (3, .int f), (4, .int t)]) (stk' := [.long ((be135 187 i105) + ((be135 186 i105) * (t.toInt64))), .int (nI i105), .ref 187]) (mem' := cx (fm_u g 185 2 c) l a be135 R) (fun _ _ _ => rfl) ?_
              refine he_stL (mem' := cx (fm_u g 185 2 c) l a (fm_uf be135 187 (vp_updL (be135 187) (nI i105 : Int32).toNatClampNeg ((be135 187 i105) + ((be135 186 i105) * (t.toInt64))))) R) (by rfl) (by rfl) (fx_inN (i := i105) (by omega) (by omega)) (by rfl) ?_
              rw [show Int32.toNatClampNeg (nI i105) = i105 from nI_clamp (by omega)]
              obtain ⟨be136, hbe136, ebe136⟩ : ∃ z : Nat → Nat → Int64, (∀ j, j ≠ 186 → j ≠ 187 → z j = b j) ∧ (fm_uf be135 187 (vp_updL (be135 187) i105 ((be135 187 i105) + ((be135 186 i105) * (t.toInt64))))) = z := ⟨_, fun j p1 p2 => (fm_uf_n p2).trans (hbe135 j p1 p2), rfl⟩
              rw [ebe136]
              refine he_s 4 (pc' := 151) (lc' := [(9, .int (nI i105)), (8, .int (nI i105)), (7, .int ((fm_u g 185 2 c) 185 2 + (nI i105) - 10)), (6, .int (nI i105)), (5, .int (nI i103)), (0, .ref 185), (1, .int c), (2, .int (nI D)), (3, .int f), (4, .int t)]) (stk' := [.int (nI i105), .ref 187, .int (nI i105), .ref 187]) (mem' := cx (fm_u g 185 2 c) l a be136 R) (fun _ _ _ => rfl) ?_
              refine he_ldL (by rfl) (by rfl) (fx_inN (i := i105) (by omega) (by omega)) ?_
              rw [show Int32.toNatClampNeg (nI i105) = i105 from nI_clamp (by omega)]
              refine he_s 3 (pc' := 158) (lc' := [(9, .int (nI i105)), (8, .int (nI i105)), (7, .int ((fm_u g 185 2 c) 185 2 + (nI i105) - 10)), (6, .int (nI i105)), (5, .int (nI i103)), (0, .ref 185), (1, .int c), (2, .int (nI D)), (3, .int f), (4, .int t)]) (stk' := [.int (nI i105), .ref 186, .long (be136 187 i105), .int (nI i105), .ref 187]) (mem' := cx (fm_u g 185 2 c) l a be136 R) (fun _ _ _ => rfl) ?_
              refine he_ldL (by rfl) (by rfl) (fx_inN (i := i105) (by omega) (by omega)) ?_
              rw [show Int32.toNatClampNeg (nI i105) = i105 from nI_clamp (by omega)]
              refine he_s 8 (pc' := 169) (lc' := [(9, .int (nI i105)), (8, .int (nI i105)), (7, .int ((fm_u g 185 2 c) 185 2 + (nI i105) - 10)), (6, .int (nI i105)), (5, .int (nI i103)), (0, .ref 185), (1, .int c), (2, .int (nI D)), (3, .int f), (4, .int t)]) (stk' := [.long ((be136 187 i105) + ((be136 186 i105) * (((16 - f) - t).toInt64))), .int (nI i105), .ref 187]) (mem' := cx (fm_u g 185 2 c) l a be136 R) (fun _ _ _ => rfl) ?_
              refine he_stL (mem' := cx (fm_u g 185 2 c) l a (fm_uf be136 187 (vp_updL (be136 187) (nI i105 : Int32).toNatClampNeg ((be136 187 i105) + ((be136 186 i105) * (((16 - f) - t).toInt64))))) R) (by rfl) (by rfl) (fx_inN (i := i105) (by omega) (by omega)) (by rfl) ?_
              rw [show Int32.toNatClampNeg (nI i105) = i105 from nI_clamp (by omega)]
              obtain ⟨be137, hbe137, ebe137⟩ : ∃ z : Nat → Nat → Int64, (∀ j, j ≠ 186 → j ≠ 187 → z j = b j) ∧ (fm_uf be136 187 (vp_updL (be136 187) i105 ((be136 187 i105) + ((be136 186 i105) * (((16 - f) - t).toInt64))))) = z := ⟨_, fun j p1 p2 => (fm_uf_n p2).trans (hbe136 j p1 p2), rfl⟩
              rw [ebe137]
              refine he_s 1 (pc' := 173) (lc' := [(6, .int ((nI i105) + 1)), (9, .int (nI i105)), (8, .int (nI i105)), (7, .int ((fm_u g 185 2 c) 185 2 + (nI i105) - 10)), (5, .int (nI i103)), (0, .ref 185), (1, .int c), (2, .int (nI D)), (3, .int f), (4, .int t)]) (stk' := []) (mem' := cx (fm_u g 185 2 c) l a be137 R) (fun _ _ _ => rfl) ?_
              rw [show ((nI i105) + 1 : Int32) = nI (i105 + 1) from by simp only [show (1 : Int32) = nI 1 from rfl, nI_add, fm_mul]]
              refine he_s 1 (pc' := fx_to 173 (-132)) (lc' := [(6, .int (nI (i105 + 1))), (9, .int (nI i105)), (8, .int (nI i105)), (7, .int ((fm_u g 185 2 c) 185 2 + (nI i105) - 10)), (5, .int (nI i103)), (0, .ref 185), (1, .int c), (2, .int (nI D)), (3, .int f), (4, .int t)]) (stk' := []) (mem' := cx (fm_u g 185 2 c) l a be137 R) (fun _ _ _ => rfl) ?_
              rw [show fx_to 173 (-132) = 41 from by decide]
              refine he_w (lc' := [(6, .int (nI (i105 + 1))), (5, .int (nI i103)), (0, .ref 185), (1, .int c), (2, .int (nI D)), (3, .int f), (4, .int t)]) ⟨rfl, rfl, rfl, rfl, rfl, rfl, rfl, trivial⟩ (by show List.Nodup [6, 5, 0, 1, 2, 3, 4]; decide) (by show List.Nodup [6, 9, 8, 7, 5, 0, 1, 2, 3, 4]; decide) ?_
              exact ih105 (i105 + 1) (by omega) _ hbe137
      exact loop105 (21) (0) (by omega) _ hbe104
  exact loop103 (D) (0) (by omega) _ hbe102
theorem hd_atl {m : Int32} : ∃ x : Int64, hr_T 2 21 [.ref 185, .int m] (cx g l a b R) (some (.long x)) (cx g l a b R) := by
  suffices h : ∃ (v : Option Value) (mem' : fx_M), (fun R1 => ∃ x : Int64, R1 = (some (.long x), cx g l a b R)) (v, mem') ∧ hr_T 2 21 [.ref 185, .int m] (cx g l a b R) v mem' by
    obtain ⟨v, mem', ⟨x, hR1⟩, h2⟩ := h
    cases hR1
    exact ⟨x, h2⟩
  refine he_meth (f := 21) (as := [.ref 185, .int m]) (F := fun R1 => ∃ x : Int64, R1 = (some (.long x), cx g l a b R)) (M := gk_m21) (by rfl) (by rfl) ?_
  refine he_s 4 (pc' := 5) (lc' := [(4, .int 0), (2, .long 0), (0, .ref 185), (1, .int m)]) (stk' := []) (mem' := cx g l a b R) (fun _ _ _ => rfl) ?_
  have loop101 : ∀ (r i101 : Nat), i101 + r = 21 → ∀ x2_101 : Int64, he_R 1 gk_m21 5 [(4, .int (nI i101)), (2, .long x2_101), (0, .ref 185), (1, .int m)] [] (cx g l a b R) (fun R1 => ∃ x : Int64, R1 = (some (.long x), cx g l a b R)) := by
    intro r
    induction r with
    | zero =>
      intro i101 hi101 x2_101
      obtain rfl : i101 = 21 := by omega
      refine he_s 2 (pc' := 9) (lc' := [(4, .int (nI 21)), (2, .long x2_101), (0, .ref 185), (1, .int m)]) (stk' := [.int 20, .int (nI 21)]) (mem' := cx g l a b R) (fun _ _ _ => rfl) ?_
      refine he_s 1 (pc' := cond (fx_cb .gt (nI 21) 20) 38 12) (lc' := [(4, .int (nI 21)), (2, .long x2_101), (0, .ref 185), (1, .int m)]) (stk' := []) (mem' := cx g l a b R) (fun _ _ _ => rfl) ?_
      rw [show (fx_cb .gt (nI 21) 20) = true from cb_gtT (a := 21) (b := 20) (by omega) (by omega) (by omega)]
      dsimp only [cond]
      refine he_s 1 (pc' := 39) (lc' := [(4, .int (nI 21)), (2, .long x2_101), (0, .ref 185), (1, .int m)]) (stk' := [.long x2_101]) (mem' := cx g l a b R) (fun _ _ _ => rfl) ?_
      exact he_ret ⟨_, rfl⟩ (by rfl) (by rfl) (by rfl)
    | succ r ih101 =>
      intro i101 hi101 x2_101
      have hl101 : i101 < 21 := by omega
      refine he_s 2 (pc' := 9) (lc' := [(4, .int (nI i101)), (2, .long x2_101), (0, .ref 185), (1, .int m)]) (stk' := [.int 20, .int (nI i101)]) (mem' := cx g l a b R) (fun _ _ _ => rfl) ?_
      refine he_s 1 (pc' := cond (fx_cb .gt (nI i101) 20) 38 12) (lc' := [(4, .int (nI i101)), (2, .long x2_101), (0, .ref 185), (1, .int m)]) (stk' := []) (mem' := cx g l a b R) (fun _ _ _ => rfl) ?_
      rw [show (fx_cb .gt (nI i101) 20) = false from cb_gtF (a := i101) (b := 20) (by omega) (by omega) (by omega)]
      dsimp only [cond]
      refine he_s 2 (pc' := 15) (lc' := [(4, .int (nI i101)), (2, .long x2_101), (0, .ref 185), (1, .int m)]) (stk' := [.int (nI i101), .ref 185]) (mem' := cx g l a b R) (fun _ _ _ => rfl) ?_
      refine he_ivV (hd_val (x := nI i101)) (by omega) (by rfl) (by rfl) (by rfl) (by rfl) (by rfl) (by rfl) ?_
      refine he_s 1 (pc' := 19) (lc' := [(4, .int (nI i101)), (2, .long x2_101), (0, .ref 185), (1, .int m)]) (stk' := [.int m, .int (g 185 2 + (nI i101) - 10)]) (mem' := cx g l a b R) (fun _ _ _ => rfl) ?_
      refine he_s 1 (pc' := cond (fx_cb .lt (g 185 2 + (nI i101) - 10) m) 32 22) (lc' := [(4, .int (nI i101)), (2, .long x2_101), (0, .ref 185), (1, .int m)]) (stk' := []) (mem' := cx g l a b R) (fun _ _ _ => rfl) ?_
      cases y102 : fx_cb .lt (g 185 2 + (nI i101) - 10) m
      · refine he_s 4 (pc' := 29) (lc' := [(4, .int (nI i101)), (2, .long x2_101), (0, .ref 185), (1, .int m)]) (stk' := [.int (nI i101), .ref 186, .long x2_101]) (mem' := cx g l a b R) (fun _ _ _ => rfl) ?_
        refine he_ldL (by rfl) (by rfl) (fx_inN (i := i101) (by omega) (by omega)) ?_
        rw [show Int32.toNatClampNeg (nI i101) = i101 from nI_clamp (by omega)]
        refine he_s 4 (pc' := 5) (lc' := [(4, .int ((nI i101) + 1)), (2, .long (x2_101 + (b 186 i101))), (0, .ref 185), (1, .int m)]) (stk' := []) (mem' := cx g l a b R) (fun _ _ _ => rfl) ?_
        rw [show ((nI i101) + 1 : Int32) = nI (i101 + 1) from by simp only [show (1 : Int32) = nI 1 from rfl, nI_add, fm_mul]]
        refine he_w (lc' := [(4, .int (nI (i101 + 1))), (2, .long (x2_101 + (b 186 i101))), (0, .ref 185), (1, .int m)]) ⟨rfl, rfl, rfl, rfl, trivial⟩ (by show List.Nodup [4, 2, 0, 1]; decide) (by show List.Nodup [4, 2, 0, 1]; decide) ?_
        exact ih101 (i101 + 1) (by omega) _
      · refine he_s 2 (pc' := 5) (lc' := [(4, .int ((nI i101) + 1)), (2, .long x2_101), (0, .ref 185), (1, .int m)]) (stk' := []) (mem' := cx g l a b R) (fun _ _ _ => rfl) ?_
        rw [show ((nI i101) + 1 : Int32) = nI (i101 + 1) from by simp only [show (1 : Int32) = nI 1 from rfl, nI_add, fm_mul]]
        refine he_w (lc' := [(4, .int (nI (i101 + 1))), (2, .long x2_101), (0, .ref 185), (1, .int m)]) ⟨rfl, rfl, rfl, rfl, trivial⟩ (by show List.Nodup [4, 2, 0, 1]; decide) (by show List.Nodup [4, 2, 0, 1]; decide) ?_
        exact ih101 (i101 + 1) (by omega) _
  exact loop101 (21) (0) (by omega) _
theorem hd_sum : ∃ x : Int64, hr_T 2 22 [.ref 185] (cx g l a b R) (some (.long x)) (cx g l a b R) := by
  suffices h : ∃ (v : Option Value) (mem' : fx_M), (fun R1 => ∃ x : Int64, R1 = (some (.long x), cx g l a b R)) (v, mem') ∧ hr_T 2 22 [.ref 185] (cx g l a b R) v mem' by
    obtain ⟨v, mem', ⟨x, hR1⟩, h2⟩ := h
    cases hR1
    exact ⟨x, h2⟩
  refine he_meth (f := 22) (as := [.ref 185]) (F := fun R1 => ∃ x : Int64, R1 = (some (.long x), cx g l a b R)) (M := gk_m22) (by rfl) (by rfl) ?_
  refine he_s 4 (pc' := 4) (lc' := [(3, .int 0), (1, .long 0), (0, .ref 185)]) (stk' := []) (mem' := cx g l a b R) (fun _ _ _ => rfl) ?_
  have loop101 : ∀ (r i101 : Nat), i101 + r = 21 → ∀ x1_101 : Int64, he_R 1 gk_m22 4 [(3, .int (nI i101)), (1, .long x1_101), (0, .ref 185)] [] (cx g l a b R) (fun R1 => ∃ x : Int64, R1 = (some (.long x), cx g l a b R)) := by
    intro r
    induction r with
    | zero =>
      intro i101 hi101 x1_101
      obtain rfl : i101 = 21 := by omega
      refine he_s 2 (pc' := 7) (lc' := [(3, .int (nI 21)), (1, .long x1_101), (0, .ref 185)]) (stk' := [.int 20, .int (nI 21)]) (mem' := cx g l a b R) (fun _ _ _ => rfl) ?_
      refine he_s 1 (pc' := cond (fx_cb .gt (nI 21) 20) 32 10) (lc' := [(3, .int (nI 21)), (1, .long x1_101), (0, .ref 185)]) (stk' := []) (mem' := cx g l a b R) (fun _ _ _ => rfl) ?_
      rw [show (fx_cb .gt (nI 21) 20) = true from cb_gtT (a := 21) (b := 20) (by omega) (by omega) (by omega)]
      dsimp only [cond]
      refine he_s 1 (pc' := 33) (lc' := [(3, .int (nI 21)), (1, .long x1_101), (0, .ref 185)]) (stk' := [.long x1_101]) (mem' := cx g l a b R) (fun _ _ _ => rfl) ?_
      exact he_ret ⟨_, rfl⟩ (by rfl) (by rfl) (by rfl)
    | succ r ih101 =>
      intro i101 hi101 x1_101
      have hl101 : i101 < 21 := by omega
      refine he_s 2 (pc' := 7) (lc' := [(3, .int (nI i101)), (1, .long x1_101), (0, .ref 185)]) (stk' := [.int 20, .int (nI i101)]) (mem' := cx g l a b R) (fun _ _ _ => rfl) ?_
      refine he_s 1 (pc' := cond (fx_cb .gt (nI i101) 20) 32 10) (lc' := [(3, .int (nI i101)), (1, .long x1_101), (0, .ref 185)]) (stk' := []) (mem' := cx g l a b R) (fun _ _ _ => rfl) ?_
      rw [show (fx_cb .gt (nI i101) 20) = false from cb_gtF (a := i101) (b := 20) (by omega) (by omega) (by omega)]
      dsimp only [cond]
      refine he_s 4 (pc' := 16) (lc' := [(3, .int (nI i101)), (1, .long x1_101), (0, .ref 185)]) (stk' := [.int (nI i101), .ref 186, .long x1_101]) (mem' := cx g l a b R) (fun _ _ _ => rfl) ?_
      refine he_ldL (by rfl) (by rfl) (fx_inN (i := i101) (by omega) (by omega)) ?_
      rw [show Int32.toNatClampNeg (nI i101) = i101 from nI_clamp (by omega)]
      refine he_s 2 (pc' := 19) (lc' := [(3, .int (nI i101)), (1, .long x1_101), (0, .ref 185)]) (stk' := [.int (nI i101), .ref 185, .long (b 186 i101), .long x1_101]) (mem' := cx g l a b R) (fun _ _ _ => rfl) ?_
      refine he_ivV (hd_val (x := nI i101)) (by omega) (by rfl) (by rfl) (by rfl) (by rfl) (by rfl) (by rfl) ?_
      refine he_s 6 (pc' := 4) (lc' := [(3, .int ((nI i101) + 1)), (1, .long (x1_101 + ((b 186 i101) * ((g 185 2 + (nI i101) - 10).toInt64)))), (0, .ref 185)]) (stk' := []) (mem' := cx g l a b R) (fun _ _ _ => rfl) ?_
      rw [show ((nI i101) + 1 : Int32) = nI (i101 + 1) from by simp only [show (1 : Int32) = nI 1 from rfl, nI_add, fm_mul]]
      refine he_w (lc' := [(3, .int (nI (i101 + 1))), (1, .long (x1_101 + ((b 186 i101) * ((g 185 2 + (nI i101) - 10).toInt64)))), (0, .ref 185)]) ⟨rfl, rfl, rfl, trivial⟩ (by show List.Nodup [3, 1, 0]; decide) (by show List.Nodup [3, 1, 0]; decide) ?_
      exact ih101 (i101 + 1) (by omega) _
  exact loop101 (21) (0) (by omega) _
theorem hd_tell {n u : Int64} : ∃ l' : Nat → Nat → Int64, hr_T 1 190 [.ref 0, .long n, .long u] (cx g l a b R) none (cx g l' a b R) := by
  suffices h : ∃ (v : Option Value) (mem' : fx_M), (fun R1 => ∃ l' : Nat → Nat → Int64, R1 = (none, cx g l' a b R)) (v, mem') ∧ hr_T 1 190 [.ref 0, .long n, .long u] (cx g l a b R) v mem' by
    obtain ⟨v, mem', ⟨l', hR1⟩, h2⟩ := h
    cases hR1
    exact ⟨l', h2⟩
  refine he_meth (F := fun R1 => ∃ l' : Nat → Nat → Int64, R1 = (none, cx g l' a b R)) (M := gk_m190) (by rfl) (by rfl) ?_
  have fin : ∀ (x y : Int64) (k : Int32), he_R 0 gk_m190 44 [(9, .int k), (7, .long y), (5, .long x), (0, .ref 0), (1, .long n), (3, .long u)] [] (cx g l a b R) (fun R1 => ∃ l' : Nat → Nat → Int64, R1 = (none, cx g l' a b R)) := fun x y k => by
    refine he_s 4 (pc' := 49) (lc' := [(9, .int k), (7, .long y), (5, .long x), (0, .ref 0), (1, .long n), (3, .long u)]) (stk' := [.int (lg_cmp x 0), .ref 0]) (mem' := cx g l a b R) (fun _ _ _ => rfl) ?_
    cases h1 : fx_cb .ne (lg_cmp x 0) 0
    · refine he_s 1 (pc' := cond (fx_cb .ne (lg_cmp x 0) 0) 56 52) (lc' := [(9, .int k), (7, .long y), (5, .long x), (0, .ref 0), (1, .long n), (3, .long u)]) (stk' := [.ref 0]) (mem' := cx g l a b R) (fun _ _ _ => rfl) ?_
      rw [h1]
      dsimp only [cond]
      refine he_s 2 (pc' := 60) (lc' := [(9, .int k), (7, .long y), (5, .long x), (0, .ref 0), (1, .long n), (3, .long u)]) (stk' := [.long 0, .ref 0]) (mem' := cx g l a b R) (fun _ _ _ => rfl) ?_
      refine he_s 5 (pc' := 68) (lc' := [(9, .int k), (7, .long y), (5, .long x), (0, .ref 0), (1, .long n), (3, .long u)]) (stk' := [.int (lg_cmp x 0), .ref 0]) (mem' := cx g (fm_ul l 0 1 0) a b R) (fun _ _ _ => rfl) ?_
      refine he_s 1 (pc' := cond (fx_cb .ne (lg_cmp x 0) 0) 75 71) (lc' := [(9, .int k), (7, .long y), (5, .long x), (0, .ref 0), (1, .long n), (3, .long u)]) (stk' := [.ref 0]) (mem' := cx g (fm_ul l 0 1 0) a b R) (fun _ _ _ => rfl) ?_
      rw [h1]
      dsimp only [cond]
      refine he_s 2 (pc' := 79) (lc' := [(9, .int k), (7, .long y), (5, .long x), (0, .ref 0), (1, .long n), (3, .long u)]) (stk' := [.long 1, .ref 0]) (mem' := cx g (fm_ul l 0 1 0) a b R) (fun _ _ _ => rfl) ?_
      refine he_s 1 (pc' := 82) (lc' := [(9, .int k), (7, .long y), (5, .long x), (0, .ref 0), (1, .long n), (3, .long u)]) (stk' := []) (mem' := cx g (fm_ul (fm_ul l 0 1 0) 0 2 1) a b R) (fun _ _ _ => rfl) ?_
      exact he_ret ⟨_, rfl⟩ (by rfl) (by rfl) (by rfl)
    · refine he_s 1 (pc' := cond (fx_cb .ne (lg_cmp x 0) 0) 56 52) (lc' := [(9, .int k), (7, .long y), (5, .long x), (0, .ref 0), (1, .long n), (3, .long u)]) (stk' := [.ref 0]) (mem' := cx g l a b R) (fun _ _ _ => rfl) ?_
      rw [h1]
      dsimp only [cond]
      refine he_s 2 (pc' := 59) (lc' := [(9, .int k), (7, .long y), (5, .long x), (0, .ref 0), (1, .long n), (3, .long u)]) (stk' := [.long x, .long n, .ref 0]) (mem' := cx g l a b R) (fun _ _ _ => rfl) ?_
      have hx0 := tc_ne0 h1
      refine he_ldiv (by rfl) hx0 ?_
      refine he_s 5 (pc' := 68) (lc' := [(9, .int k), (7, .long y), (5, .long x), (0, .ref 0), (1, .long n), (3, .long u)]) (stk' := [.int (lg_cmp x 0), .ref 0]) (mem' := cx g (fm_ul l 0 1 (n / x)) a b R) (fun _ _ _ => rfl) ?_
      refine he_s 1 (pc' := cond (fx_cb .ne (lg_cmp x 0) 0) 75 71) (lc' := [(9, .int k), (7, .long y), (5, .long x), (0, .ref 0), (1, .long n), (3, .long u)]) (stk' := [.ref 0]) (mem' := cx g (fm_ul l 0 1 (n / x)) a b R) (fun _ _ _ => rfl) ?_
      rw [h1]
      dsimp only [cond]
      refine he_s 2 (pc' := 78) (lc' := [(9, .int k), (7, .long y), (5, .long x), (0, .ref 0), (1, .long n), (3, .long u)]) (stk' := [.long x, .long u, .ref 0]) (mem' := cx g (fm_ul l 0 1 (n / x)) a b R) (fun _ _ _ => rfl) ?_
      refine he_ldiv (by rfl) hx0 ?_
      refine he_s 1 (pc' := 82) (lc' := [(9, .int k), (7, .long y), (5, .long x), (0, .ref 0), (1, .long n), (3, .long u)]) (stk' := []) (mem' := cx g (fm_ul (fm_ul l 0 1 (n / x)) 0 2 (u / x)) a b R) (fun _ _ _ => rfl) ?_
      exact he_ret ⟨_, rfl⟩ (by rfl) (by rfl) (by rfl)
  have loop : ∀ (r k : Nat) (x y : Int64), k + r = 100 → he_R 0 gk_m190 9 [(9, .int (nI k)), (7, .long y), (5, .long x), (0, .ref 0), (1, .long n), (3, .long u)] [] (cx g l a b R) (fun R1 => ∃ l' : Nat → Nat → Int64, R1 = (none, cx g l' a b R)) := by
    intro r
    induction r with
    | zero =>
      intro k x y hk
      obtain rfl : k = 100 := by omega
      refine he_s 2 (pc' := 13) (lc' := [(9, .int (nI 100)), (7, .long y), (5, .long x), (0, .ref 0), (1, .long n), (3, .long u)]) (stk' := [.int 100, .int (nI 100)]) (mem' := cx g l a b R) (fun _ _ _ => rfl) ?_
      refine he_s 1 (pc' := cond (fx_cb .ge (nI 100) 100) 44 16) (lc' := [(9, .int (nI 100)), (7, .long y), (5, .long x), (0, .ref 0), (1, .long n), (3, .long u)]) (stk' := []) (mem' := cx g l a b R) (fun _ _ _ => rfl) ?_
      rw [show fx_cb .ge (nI 100) 100 = true from by decide]
      dsimp only [cond]
      exact fin x y _
    | succ r ih =>
      intro k x y hk
      refine he_s 2 (pc' := 13) (lc' := [(9, .int (nI k)), (7, .long y), (5, .long x), (0, .ref 0), (1, .long n), (3, .long u)]) (stk' := [.int 100, .int (nI k)]) (mem' := cx g l a b R) (fun _ _ _ => rfl) ?_
      refine he_s 1 (pc' := cond (fx_cb .ge (nI k) 100) 44 16) (lc' := [(9, .int (nI k)), (7, .long y), (5, .long x), (0, .ref 0), (1, .long n), (3, .long u)]) (stk' := []) (mem' := cx g l a b R) (fun _ _ _ => rfl) ?_
      rw [show fx_cb .ge (nI k) 100 = false from cb_geF (a := k) (b := 100) (by omega) (by omega) (by omega)]
      dsimp only [cond]
      refine he_s 3 (pc' := 20) (lc' := [(9, .int (nI k)), (7, .long y), (5, .long x), (0, .ref 0), (1, .long n), (3, .long u)]) (stk' := [.int (lg_cmp y 0)]) (mem' := cx g l a b R) (fun _ _ _ => rfl) ?_
      refine he_s 1 (pc' := cond (fx_cb .eq (lg_cmp y 0) 0) 44 23) (lc' := [(9, .int (nI k)), (7, .long y), (5, .long x), (0, .ref 0), (1, .long n), (3, .long u)]) (stk' := []) (mem' := cx g l a b R) (fun _ _ _ => rfl) ?_
      cases h1 : fx_cb .eq (lg_cmp y 0) 0
      · have hy0 := fm_i64 h1
        refine he_s 2 (pc' := 27) (lc' := [(9, .int (nI k)), (7, .long y), (5, .long x), (0, .ref 0), (1, .long n), (3, .long u)]) (stk' := [.long y, .long x]) (mem' := cx g l a b R) (fun _ _ _ => rfl) ?_
        refine he_lrem (by rfl) hy0 ?_
        refine he_s 7 (pc' := 9) (lc' := [(9, .int (nI k + 1)), (7, .long (x - x / y * y)), (5, .long y), (10, .long (x - x / y * y)), (0, .ref 0), (1, .long n), (3, .long u)]) (stk' := []) (mem' := cx g l a b R) (fun _ _ _ => rfl) ?_
        rw [show nI k + 1 = nI (k + 1) from nI_add k 1]
        refine he_w (lc' := [(9, .int (nI (k + 1))), (7, .long (x - x / y * y)), (5, .long y), (0, .ref 0), (1, .long n), (3, .long u)]) ⟨rfl, rfl, rfl, rfl, rfl, rfl, trivial⟩ (by show List.Nodup [9, 7, 5, 0, 1, 3]; decide) (by show List.Nodup [9, 7, 5, 10, 0, 1, 3]; decide) ?_
        exact ih (k + 1) y (x - x / y * y) (by omega)
      · exact fin x y _
  refine he_s 6 (pc' := 9) (lc' := [(9, .int 0), (7, .long u), (5, .long n), (0, .ref 0), (1, .long n), (3, .long u)]) (stk' := []) (mem' := cx g l a b R) (fun _ _ _ => rfl) ?_
  exact loop 100 0 n u (by omega)
theorem hd_oddsF {c m d f t : Int32} (h : ¬ (iceN (g 15 8) (g 15 9) c ∧ (0 ≤ m.toInt ∧ m.toInt ≤ 999) ∧ dyN d f t)) : hr_T 3 178 [.ref 0, .int c, .int m, .int d, .int f, .int t] (cx g l a b R) (some (.int 0)) (cx (fm_u g 0 0 1) l a b R) := by
  refine hr_meth (by rfl) (by rfl) ?_
  have bad : hr_R 2 gk_m178 33 [(0, .ref 0), (1, .int c), (2, .int m), (3, .int d), (4, .int f), (5, .int t)] [] (cx g l a b R) (some (.int 0), cx (fm_u g 0 0 1) l a b R) := by
    refine hr_s 2 (pc' := 35) (lc' := [(0, .ref 0), (1, .int c), (2, .int m), (3, .int d), (4, .int f), (5, .int t)]) (stk' := [.int 1, .ref 0]) (mem' := cx g l a b R) (fun _ _ _ => rfl) ?_
    refine hr_ivV hd_deny (by omega) (by rfl) (by rfl) (by rfl) (by rfl) (by rfl) (by rfl) ?_
    exact hr_ret (by rfl) (by rfl) (by rfl)
  refine hr_s 3 (pc' := 5) (lc' := [(0, .ref 0), (1, .int c), (2, .int m), (3, .int d), (4, .int f), (5, .int t)]) (stk' := [.int c, .ref 15]) (mem' := cx g l a b R) (fun _ _ _ => rfl) ?_
  refine hr_ivV (hd_ice (c := c)) (by omega) (by rfl) (by rfl) (by rfl) (by rfl) (by rfl) (by rfl) ?_
  by_cases h1 : iceN (g 15 8) (g 15 9) c
  · rw [if_pos h1]
    refine hr_s 1 (pc' := cond (fx_cb .eq 1 0) 33 11) (lc' := [(0, .ref 0), (1, .int c), (2, .int m), (3, .int d), (4, .int f), (5, .int t)]) (stk' := []) (mem' := cx g l a b R) (fun _ _ _ => rfl) ?_
    rw [show fx_cb .eq 1 0 = false from by decide]
    dsimp only [cond]
    refine hr_s 1 (pc' := 12) (lc' := [(0, .ref 0), (1, .int c), (2, .int m), (3, .int d), (4, .int f), (5, .int t)]) (stk' := [.int m]) (mem' := cx g l a b R) (fun _ _ _ => rfl) ?_
    refine hr_s 1 (pc' := cond (fx_cb .lt m 0) 33 15) (lc' := [(0, .ref 0), (1, .int c), (2, .int m), (3, .int d), (4, .int f), (5, .int t)]) (stk' := []) (mem' := cx g l a b R) (fun _ _ _ => rfl) ?_
    cases h2 : fx_cb .lt m 0
    · have p2 : (0 : Int) ≤ m.toInt := tc_ltF h2
      refine hr_s 2 (pc' := 19) (lc' := [(0, .ref 0), (1, .int c), (2, .int m), (3, .int d), (4, .int f), (5, .int t)]) (stk' := [.int 999, .int m]) (mem' := cx g l a b R) (fun _ _ _ => rfl) ?_
      refine hr_s 1 (pc' := cond (fx_cb .gt m 999) 33 22) (lc' := [(0, .ref 0), (1, .int c), (2, .int m), (3, .int d), (4, .int f), (5, .int t)]) (stk' := []) (mem' := cx g l a b R) (fun _ _ _ => rfl) ?_
      cases h3 : fx_cb .gt m 999
      · have p3 : m.toInt ≤ (999 : Int) := tc_gtF h3
        refine hr_s 3 (pc' := 27) (lc' := [(0, .ref 0), (1, .int c), (2, .int m), (3, .int d), (4, .int f), (5, .int t)]) (stk' := [.int t, .int f, .int d]) (mem' := cx g l a b R) (fun _ _ _ => rfl) ?_
        refine hr_ivS (hd_can (d := d) (f := f) (t := t)) (by omega) (by rfl) (by rfl) (by rfl) (by rfl) (by rfl) ?_
        rw [if_neg (show ¬ dyN d f t from fun z => h ⟨h1, ⟨p2, p3⟩, z⟩)]
        refine hr_s 1 (pc' := cond (fx_cb .ne 0 0) 39 33) (lc' := [(0, .ref 0), (1, .int c), (2, .int m), (3, .int d), (4, .int f), (5, .int t)]) (stk' := []) (mem' := cx g l a b R) (fun _ _ _ => rfl) ?_
        rw [show fx_cb .ne 0 0 = false from by decide]
        dsimp only [cond]
        exact bad
      · exact bad
    · exact bad
  · rw [if_neg h1]
    refine hr_s 1 (pc' := cond (fx_cb .eq 0 0) 33 11) (lc' := [(0, .ref 0), (1, .int c), (2, .int m), (3, .int d), (4, .int f), (5, .int t)]) (stk' := []) (mem' := cx g l a b R) (fun _ _ _ => rfl) ?_
    rw [show fx_cb .eq 0 0 = true from by decide]
    dsimp only [cond]
    exact bad
theorem hd_oddsT {C D : Nat} {m f t : Int32} (hC : C < 10) (hD : D ≤ 10) (h : iceN (g 15 8) (g 15 9) (nI C) ∧ (0 ≤ m.toInt ∧ m.toInt ≤ 999) ∧ dyN (nI D) f t) : ∃ (g' : Nat → Nat → Int32) (l' b' : Nat → Nat → Int64), hr_T 3 178 [.ref 0, .int (nI C), .int m, .int (nI D), .int f, .int t] (cx g l a b R) (some (.int 1)) (cx g' l' a b' R) := by
  obtain ⟨b1, s1, -⟩ := hd_spread (g := g) (l := l) (a := a) (b := b) (R := R) (c := a 22 C) (f := f) (t := t) hD
  obtain ⟨x, s2⟩ := hd_atl (g := fm_u g 185 2 (a 22 C)) (l := l) (a := a) (b := b1) (R := R) (m := m)
  obtain ⟨l1, s3⟩ := hd_tell (g := fm_u g 185 2 (a 22 C)) (l := l) (a := a) (b := b1) (R := R) (n := x) (u := (1 : Int64) <<< ((4 * nI D : Int32).toInt64 &&& 63))
  refine ⟨fm_u (fm_u g 185 2 (a 22 C)) 0 0 0, l1, b1, hr_meth (by rfl) (by rfl) ?_⟩
  refine hr_s 3 (pc' := 5) (lc' := [(0, .ref 0), (1, .int (nI C)), (2, .int m), (3, .int (nI D)), (4, .int f), (5, .int t)]) (stk' := [.int (nI C), .ref 15]) (mem' := cx g l a b R) (fun _ _ _ => rfl) ?_
  refine hr_ivV (hd_ice (c := nI C)) (by omega) (by rfl) (by rfl) (by rfl) (by rfl) (by rfl) (by rfl) ?_
  rw [if_pos h.1]
  refine hr_s 1 (pc' := cond (fx_cb .eq 1 0) 33 11) (lc' := [(0, .ref 0), (1, .int (nI C)), (2, .int m), (3, .int (nI D)), (4, .int f), (5, .int t)]) (stk' := []) (mem' := cx g l a b R) (fun _ _ _ => rfl) ?_
  rw [show fx_cb .eq 1 0 = false from by decide]
  dsimp only [cond]
  refine hr_s 1 (pc' := 12) (lc' := [(0, .ref 0), (1, .int (nI C)), (2, .int m), (3, .int (nI D)), (4, .int f), (5, .int t)]) (stk' := [.int m]) (mem' := cx g l a b R) (fun _ _ _ => rfl) ?_
  refine hr_s 1 (pc' := cond (fx_cb .lt m 0) 33 15) (lc' := [(0, .ref 0), (1, .int (nI C)), (2, .int m), (3, .int (nI D)), (4, .int f), (5, .int t)]) (stk' := []) (mem' := cx g l a b R) (fun _ _ _ => rfl) ?_
  rw [show fx_cb .lt m 0 = false from decide_eq_false (fun z => by have q := Int32.lt_iff_toInt_lt.mp z; have h1 := h.2.1.1; have h2 : (0 : Int32).toInt = 0 := rfl; omega)]
  dsimp only [cond]
  refine hr_s 2 (pc' := 19) (lc' := [(0, .ref 0), (1, .int (nI C)), (2, .int m), (3, .int (nI D)), (4, .int f), (5, .int t)]) (stk' := [.int 999, .int m]) (mem' := cx g l a b R) (fun _ _ _ => rfl) ?_
  refine hr_s 1 (pc' := cond (fx_cb .gt m 999) 33 22) (lc' := [(0, .ref 0), (1, .int (nI C)), (2, .int m), (3, .int (nI D)), (4, .int f), (5, .int t)]) (stk' := []) (mem' := cx g l a b R) (fun _ _ _ => rfl) ?_
  rw [show fx_cb .gt m 999 = false from decide_eq_false (fun z => by have q := Int32.lt_iff_toInt_lt.mp z; have h1 := h.2.1.2; have h2 : (999 : Int32).toInt = 999 := rfl; omega)]
  dsimp only [cond]
  refine hr_s 3 (pc' := 27) (lc' := [(0, .ref 0), (1, .int (nI C)), (2, .int m), (3, .int (nI D)), (4, .int f), (5, .int t)]) (stk' := [.int t, .int f, .int (nI D)]) (mem' := cx g l a b R) (fun _ _ _ => rfl) ?_
  refine hr_ivS (hd_can (d := nI D) (f := f) (t := t)) (by omega) (by rfl) (by rfl) (by rfl) (by rfl) (by rfl) ?_
  rw [if_pos h.2.2]
  refine hr_s 1 (pc' := cond (fx_cb .ne 1 0) 39 33) (lc' := [(0, .ref 0), (1, .int (nI C)), (2, .int m), (3, .int (nI D)), (4, .int f), (5, .int t)]) (stk' := []) (mem' := cx g l a b R) (fun _ _ _ => rfl) ?_
  rw [show fx_cb .ne 1 0 = true from by decide]
  dsimp only [cond]
  refine hr_s 7 (pc' := 54) (lc' := [(0, .ref 0), (1, .int (nI C)), (2, .int m), (3, .int (nI D)), (4, .int f), (5, .int t)]) (stk' := [.int (nI C), .ref 22, .ref 185]) (mem' := cx g l a b R) (fun _ _ _ => rfl) ?_
  refine hr_ldI (by rfl) (by rfl) (fx_inN (i := C) (by omega) (by omega)) ?_
  rw [show Int32.toNatClampNeg (nI C) = C from nI_clamp (by omega)]
  refine hr_s 3 (pc' := 60) (lc' := [(0, .ref 0), (1, .int (nI C)), (2, .int m), (3, .int (nI D)), (4, .int f), (5, .int t)]) (stk' := [.int t, .int f, .int (nI D), .int (a 22 C), .ref 185]) (mem' := cx g l a b R) (fun _ _ _ => rfl) ?_
  refine hr_ivV s1 (by omega) (by rfl) (by rfl) (by rfl) (by rfl) (by rfl) (by rfl) ?_
  refine hr_s 4 (pc' := 69) (lc' := [(0, .ref 0), (1, .int (nI C)), (2, .int m), (3, .int (nI D)), (4, .int f), (5, .int t)]) (stk' := [.int m, .ref 185, .ref 0]) (mem' := cx (fm_u g 185 2 (a 22 C)) l a b1 R) (fun _ _ _ => rfl) ?_
  refine hr_ivV s2 (by omega) (by rfl) (by rfl) (by rfl) (by rfl) (by rfl) (by rfl) ?_
  refine hr_s 1 (pc' := 73) (lc' := [(0, .ref 0), (1, .int (nI C)), (2, .int m), (3, .int (nI D)), (4, .int f), (5, .int t)]) (stk' := [.int (nI D), .long x, .ref 0]) (mem' := cx (fm_u g 185 2 (a 22 C)) l a b1 R) (fun _ _ _ => rfl) ?_
  refine hr_ivS (hd_whole (d := nI D)) (by omega) (by rfl) (by rfl) (by rfl) (by rfl) (by rfl) ?_
  refine hr_ivV s3 (by omega) (by rfl) (by rfl) (by rfl) (by rfl) (by rfl) (by rfl) ?_
  refine hr_s 1 (pc' := 80) (lc' := [(0, .ref 0), (1, .int (nI C)), (2, .int m), (3, .int (nI D)), (4, .int f), (5, .int t)]) (stk' := [.ref 0]) (mem' := cx (fm_u g 185 2 (a 22 C)) l1 a b1 R) (fun _ _ _ => rfl) ?_
  refine hr_ivV hd_agree (by omega) (by rfl) (by rfl) (by rfl) (by rfl) (by rfl) (by rfl) ?_
  exact hr_ret (by rfl) (by rfl) (by rfl)
theorem hd_meanF {c d f t : Int32} (h : ¬ (iceN (g 15 8) (g 15 9) c ∧ dyN d f t)) : hr_T 3 180 [.ref 0, .int c, .int d, .int f, .int t] (cx g l a b R) (some (.int 0)) (cx (fm_u g 0 0 1) l a b R) := by
  refine hr_meth (by rfl) (by rfl) ?_
  have bad : hr_R 2 gk_m180 21 [(0, .ref 0), (1, .int c), (2, .int d), (3, .int f), (4, .int t)] [] (cx g l a b R) (some (.int 0), cx (fm_u g 0 0 1) l a b R) := by
    refine hr_s 2 (pc' := 23) (lc' := [(0, .ref 0), (1, .int c), (2, .int d), (3, .int f), (4, .int t)]) (stk' := [.int 1, .ref 0]) (mem' := cx g l a b R) (fun _ _ _ => rfl) ?_
    refine hr_ivV hd_deny (by omega) (by rfl) (by rfl) (by rfl) (by rfl) (by rfl) (by rfl) ?_
    exact hr_ret (by rfl) (by rfl) (by rfl)
  refine hr_s 3 (pc' := 5) (lc' := [(0, .ref 0), (1, .int c), (2, .int d), (3, .int f), (4, .int t)]) (stk' := [.int c, .ref 15]) (mem' := cx g l a b R) (fun _ _ _ => rfl) ?_
  refine hr_ivV (hd_ice (c := c)) (by omega) (by rfl) (by rfl) (by rfl) (by rfl) (by rfl) (by rfl) ?_
  by_cases h1 : iceN (g 15 8) (g 15 9) c
  · rw [if_pos h1]
    refine hr_s 1 (pc' := cond (fx_cb .eq 1 0) 21 11) (lc' := [(0, .ref 0), (1, .int c), (2, .int d), (3, .int f), (4, .int t)]) (stk' := []) (mem' := cx g l a b R) (fun _ _ _ => rfl) ?_
    rw [show fx_cb .eq 1 0 = false from by decide]
    dsimp only [cond]
    refine hr_s 3 (pc' := 15) (lc' := [(0, .ref 0), (1, .int c), (2, .int d), (3, .int f), (4, .int t)]) (stk' := [.int t, .int f, .int d]) (mem' := cx g l a b R) (fun _ _ _ => rfl) ?_
    refine hr_ivS (hd_can (d := d) (f := f) (t := t)) (by omega) (by rfl) (by rfl) (by rfl) (by rfl) (by rfl) ?_
    rw [if_neg (show ¬ dyN d f t from fun z => h ⟨h1, z⟩)]
    refine hr_s 1 (pc' := cond (fx_cb .ne 0 0) 27 21) (lc' := [(0, .ref 0), (1, .int c), (2, .int d), (3, .int f), (4, .int t)]) (stk' := []) (mem' := cx g l a b R) (fun _ _ _ => rfl) ?_
    rw [show fx_cb .ne 0 0 = false from by decide]
    dsimp only [cond]
    exact bad
  · rw [if_neg h1]
    refine hr_s 1 (pc' := cond (fx_cb .eq 0 0) 21 11) (lc' := [(0, .ref 0), (1, .int c), (2, .int d), (3, .int f), (4, .int t)]) (stk' := []) (mem' := cx g l a b R) (fun _ _ _ => rfl) ?_
    rw [show fx_cb .eq 0 0 = true from by decide]
    dsimp only [cond]
    exact bad
theorem hd_meanT {C D : Nat} {f t : Int32} (hC : C < 10) (hD : D ≤ 10) (h : iceN (g 15 8) (g 15 9) (nI C) ∧ dyN (nI D) f t) : ∃ (g' : Nat → Nat → Int32) (l' b' : Nat → Nat → Int64), hr_T 3 180 [.ref 0, .int (nI C), .int (nI D), .int f, .int t] (cx g l a b R) (some (.int 1)) (cx g' l' a b' R) := by
  obtain ⟨b1, s1, -⟩ := hd_spread (g := g) (l := l) (a := a) (b := b) (R := R) (c := a 22 C) (f := f) (t := t) hD
  obtain ⟨x, s2⟩ := hd_sum (g := fm_u g 185 2 (a 22 C)) (l := l) (a := a) (b := b1) (R := R)
  obtain ⟨l1, s3⟩ := hd_tell (g := fm_u g 185 2 (a 22 C)) (l := l) (a := a) (b := b1) (R := R) (n := x) (u := (1 : Int64) <<< ((4 * nI D : Int32).toInt64 &&& 63))
  refine ⟨fm_u (fm_u g 185 2 (a 22 C)) 0 0 0, l1, b1, hr_meth (by rfl) (by rfl) ?_⟩
  refine hr_s 3 (pc' := 5) (lc' := [(0, .ref 0), (1, .int (nI C)), (2, .int (nI D)), (3, .int f), (4, .int t)]) (stk' := [.int (nI C), .ref 15]) (mem' := cx g l a b R) (fun _ _ _ => rfl) ?_
  refine hr_ivV (hd_ice (c := nI C)) (by omega) (by rfl) (by rfl) (by rfl) (by rfl) (by rfl) (by rfl) ?_
  rw [if_pos h.1]
  refine hr_s 1 (pc' := cond (fx_cb .eq 1 0) 21 11) (lc' := [(0, .ref 0), (1, .int (nI C)), (2, .int (nI D)), (3, .int f), (4, .int t)]) (stk' := []) (mem' := cx g l a b R) (fun _ _ _ => rfl) ?_
  rw [show fx_cb .eq 1 0 = false from by decide]
  dsimp only [cond]
  refine hr_s 3 (pc' := 15) (lc' := [(0, .ref 0), (1, .int (nI C)), (2, .int (nI D)), (3, .int f), (4, .int t)]) (stk' := [.int t, .int f, .int (nI D)]) (mem' := cx g l a b R) (fun _ _ _ => rfl) ?_
  refine hr_ivS (hd_can (d := nI D) (f := f) (t := t)) (by omega) (by rfl) (by rfl) (by rfl) (by rfl) (by rfl) ?_
  rw [if_pos h.2]
  refine hr_s 1 (pc' := cond (fx_cb .ne 1 0) 27 21) (lc' := [(0, .ref 0), (1, .int (nI C)), (2, .int (nI D)), (3, .int f), (4, .int t)]) (stk' := []) (mem' := cx g l a b R) (fun _ _ _ => rfl) ?_
  rw [show fx_cb .ne 1 0 = true from by decide]
  dsimp only [cond]
  refine hr_s 7 (pc' := 42) (lc' := [(0, .ref 0), (1, .int (nI C)), (2, .int (nI D)), (3, .int f), (4, .int t)]) (stk' := [.int (nI C), .ref 22, .ref 185]) (mem' := cx g l a b R) (fun _ _ _ => rfl) ?_
  refine hr_ldI (by rfl) (by rfl) (fx_inN (i := C) (by omega) (by omega)) ?_
  rw [show Int32.toNatClampNeg (nI C) = C from nI_clamp (by omega)]
  refine hr_s 3 (pc' := 47) (lc' := [(0, .ref 0), (1, .int (nI C)), (2, .int (nI D)), (3, .int f), (4, .int t)]) (stk' := [.int t, .int f, .int (nI D), .int (a 22 C), .ref 185]) (mem' := cx g l a b R) (fun _ _ _ => rfl) ?_
  refine hr_ivV s1 (by omega) (by rfl) (by rfl) (by rfl) (by rfl) (by rfl) (by rfl) ?_
  refine hr_s 3 (pc' := 55) (lc' := [(0, .ref 0), (1, .int (nI C)), (2, .int (nI D)), (3, .int f), (4, .int t)]) (stk' := [.ref 185, .ref 0]) (mem' := cx (fm_u g 185 2 (a 22 C)) l a b1 R) (fun _ _ _ => rfl) ?_
  refine hr_ivV s2 (by omega) (by rfl) (by rfl) (by rfl) (by rfl) (by rfl) (by rfl) ?_
  refine hr_s 1 (pc' := 59) (lc' := [(0, .ref 0), (1, .int (nI C)), (2, .int (nI D)), (3, .int f), (4, .int t)]) (stk' := [.int (nI D), .long x, .ref 0]) (mem' := cx (fm_u g 185 2 (a 22 C)) l a b1 R) (fun _ _ _ => rfl) ?_
  refine hr_ivS (hd_whole (d := nI D)) (by omega) (by rfl) (by rfl) (by rfl) (by rfl) (by rfl) ?_
  refine hr_ivV s3 (by omega) (by rfl) (by rfl) (by rfl) (by rfl) (by rfl) (by rfl) ?_
  refine hr_s 1 (pc' := 66) (lc' := [(0, .ref 0), (1, .int (nI C)), (2, .int (nI D)), (3, .int f), (4, .int t)]) (stk' := [.ref 0]) (mem' := cx (fm_u g 185 2 (a 22 C)) l1 a b1 R) (fun _ _ _ => rfl) ?_
  refine hr_ivV hd_agree (by omega) (by rfl) (by rfl) (by rfl) (by rfl) (by rfl) (by rfl) ?_
  exact hr_ret (by rfl) (by rfl) (by rfl)
end CDAY
