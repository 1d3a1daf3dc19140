/-! ===== fx: days ===== -/
section FDY
variable {g : Nat → Int32} {tp bt : Int64} {a0 a : Nat → Nat → Int32} {b : Nat → Nat → Int64}
theorem fm_uLs {b : Nat → Nat → Int64} {t i j : Nat} {v : Int64} : fm_uL b t i v t j = if j = i then v else b t j := by
  unfold fm_uL
  rw [if_pos rfl]
  rfl
theorem fm_uLt {b : Nat → Nat → Int64} {t i s : Nat} {v : Int64} (h : s ≠ t) : fm_uL b t i v s = b s := by
  unfold fm_uL
  rw [if_neg h]
theorem fm_16s (j : Nat) : Int64.ofNat (16 ^ j) * 16 = Int64.ofNat (16 ^ (j + 1)) := by
  rw [Nat.pow_succ, Int64.ofNat_mul]
  rfl
theorem fm_16n : ∀ j, j < 11 → ¬ Int64.ofNat (16 ^ j) = 0 := by decide
def fm_W (b0 b : Nat → Nat → Int64) (j : Nat) : Prop := (∀ t, t ≠ 17 → t ≠ 18 → b t = b0 t) ∧ ∀ i, i < 21 → (i + j < 10 ∨ 10 + j < i) → b 17 i = 0
def fm_W8 (b : Nat → Nat → Int64) (j : Nat) : Prop := ∀ i, i < 21 → (i + j < 10 ∨ 10 + j < i) → b 18 i = 0
theorem fm_W8_u {b b2 : Nat → Nat → Int64} {j T : Nat} {v : Int64} (h : fm_W8 b j) (hT : ¬ (T + j < 10 ∨ 10 + j < T)) (e : b2 = fm_uL b 18 T v) : fm_W8 b2 j := fun i hi h2 => by
  rw [e, fm_uLs]
  split
  · next e2 => subst e2; exact absurd h2 hT
  · exact h i hi h2
theorem fm_W_8 {b0 b b2 : Nat → Nat → Int64} {j T : Nat} {v : Int64} (h : fm_W b0 b j) (e : b2 = fm_uL b 18 T v) : fm_W b0 b2 j := ⟨fun t h7 h8 => by rw [e, fm_uLt h8]; exact h.1 t h7 h8, fun i hi h2 => by rw [e, fm_uLt (by decide)]; exact h.2 i hi h2⟩
theorem fm_i64ne {x : Int64} (h : fx_cb .ne (lg_cmp x 0) 0 = true) : ¬ x = 0 := by
  rintro rfl
  exact absurd h (by decide)
theorem fq_bearsNow {C : Nat} (hC : C < 10) : fm_P 2 351 [.ref 0, .int (nI C)] (fm g tp bt a b) := by
  refine fm_P_of (by rfl) (by rfl) ?_
  refine fe_s 3 (pc' := 5) (lc' := [(0, .ref 0), (1, .int (nI C))]) (stk' := [.int (nI C), .ref 1]) (mem' := fm g tp bt a b) (fun _ _ _ => rfl) ?_
  refine fe_ivS fr_cellRow (by omega) (by rfl) (by rfl) (by rfl) (by rfl) (by rfl) ?_
  rw [show (8 + 6 * (nI C) : Int32) = nI (8 + (6 * C)) from by simp only [show (8 : Int32) = nI 8 from rfl, show (6 : Int32) = nI 6 from rfl, nI_add, fm_mul]]
  refine fe_s 2 (pc' := 10) (lc' := [(0, .ref 0), (1, .int (nI C))]) (stk' := [.int ((nI (8 + (6 * C))) + 1), .ref 1]) (mem' := fm g tp bt a b) (fun _ _ _ => rfl) ?_
  rw [show ((nI (8 + (6 * C))) + 1 : Int32) = nI ((8 + (6 * C)) + 1) from by simp only [show (1 : Int32) = nI 1 from rfl, nI_add, fm_mul]]
  refine fe_ldI (by rfl) (by rfl) (fx_inN (i := (8 + (6 * C)) + 1) (by omega) (by omega)) ?_
  rw [show Int32.toNatClampNeg (nI ((8 + (6 * C)) + 1)) = (8 + (6 * C)) + 1 from nI_clamp (by omega)]
  exact fe_ret ⟨_, rfl⟩ (by rfl) (by rfl) (by rfl)
theorem ld_229 {b0 : Nat → Nat → Int64} {C days : Nat} {f t : Int32} (hC : C < 10) (hdays : days ≤ 10) {j : Nat} {x : Int64} (hj : j < days) (hx : x = Int64.ofNat (16 ^ j)) (ih : ∀ (b2 : Nat → Nat → Int64), fm_W b0 b2 (j + 1) → fe_R 2 gk_m352 41 [(7, .int (nI (j + 1))), (5, .long (Int64.ofNat (16 ^ (j + 1)))), (0, .ref 0), (1, .int (nI C)), (2, .int (nI days)), (3, .int f), (4, .int t)] [] (fm g tp bt a b2) (fun R => ∃ (x : Int64) (b' : Nat → Nat → Int64), x = Int64.ofNat (16 ^ days) ∧ (∀ t, t ≠ 17 → t ≠ 18 → b' t = b0 t) ∧ R = (some (.long x), fm g tp bt a b'))) : ∀ (r k : Nat), k + r = 21 → ∀ b : Nat → Nat → Int64, (∀ t, t ≠ 17 → t ≠ 18 → b t = b0 t) → fm_W8 b (j + 1) → (∀ i, i < k → b 17 i = b 18 i) → fe_R 2 gk_m352 229 [(8, .int (nI k)), (7, .int (nI j)), (5, .long x), (0, .ref 0), (1, .int (nI C)), (2, .int (nI days)), (3, .int f), (4, .int t)] [] (fm g tp bt a b) (fun R => ∃ (x : Int64) (b' : Nat → Nat → Int64), x = Int64.ofNat (16 ^ days) ∧ (∀ t, t ≠ 17 → t ≠ 18 → b' t = b0 t) ∧ R = (some (.long x), fm g tp bt a b')) := by
  intro r
  induction r with
  | zero =>
    intro k hk b h1 h2 h3
    obtain rfl : k = 21 := by omega
    refine fe_s 2 (pc' := 233) (lc' := [(8, .int (nI 21)), (7, .int (nI j)), (5, .long x), (0, .ref 0), (1, .int (nI C)), (2, .int (nI days)), (3, .int f), (4, .int t)]) (stk' := [.int 21, .int (nI 21)]) (mem' := fm g tp bt a b) (fun _ _ _ => rfl) ?_
    refine fe_s 1 (pc' := cond (fx_cb .ge (nI 21) 21) 256 236) (lc' := [(8, .int (nI 21)), (7, .int (nI j)), (5, .long x), (0, .ref 0), (1, .int (nI C)), (2, .int (nI days)), (3, .int f), (4, .int t)]) (stk' := []) (mem' := fm g tp bt a b) (fun _ _ _ => rfl) ?_
    rw [show (fx_cb .ge (nI 21) 21) = true from cb_geT (a := 21) (b := 21) (by omega) (by omega) (by omega)]
    dsimp only [cond]
    refine fe_s 5 (pc' := 267) (lc' := [(7, .int ((nI j) + 1)), (5, .long (x * 16)), (8, .int (nI 21)), (0, .ref 0), (1, .int (nI C)), (2, .int (nI days)), (3, .int f), (4, .int t)]) (stk' := []) (mem' := fm g tp bt a b) (fun _ _ _ => rfl) ?_
    rw [show ((nI j) + 1 : Int32) = nI (j + 1) from by simp only [show (1 : Int32) = nI 1 from rfl, nI_add, fm_mul]]
    refine fe_s 1 (pc' := fx_to 267 (-226)) (lc' := [(7, .int (nI (j + 1))), (5, .long (x * 16)), (8, .int (nI 21)), (0, .ref 0), (1, .int (nI C)), (2, .int (nI days)), (3, .int f), (4, .int t)]) (stk' := []) (mem' := fm g tp bt a b) (fun _ _ _ => rfl) ?_
    rw [show fx_to 267 (-226) = 41 from by decide]
    rw [hx, fm_16s j]
    refine fe_w (lc' := [(7, .int (nI (j + 1))), (5, .long (Int64.ofNat (16 ^ (j + 1)))), (0, .ref 0), (1, .int (nI C)), (2, .int (nI days)), (3, .int f), (4, .int t)]) ⟨rfl, rfl, rfl, rfl, rfl, rfl, rfl, trivial⟩ (by show List.Nodup [7, 5, 0, 1, 2, 3, 4]; decide) (by show List.Nodup [7, 5, 8, 0, 1, 2, 3, 4]; decide) ?_
    exact ih b ⟨h1, fun i hi h4 => by rw [h3 i hi]; exact h2 i hi h4⟩
  | succ r ih2 =>
    intro k hk b h1 h2 h3
    refine fe_s 2 (pc' := 233) (lc' := [(8, .int (nI k)), (7, .int (nI j)), (5, .long x), (0, .ref 0), (1, .int (nI C)), (2, .int (nI days)), (3, .int f), (4, .int t)]) (stk' := [.int 21, .int (nI k)]) (mem' := fm g tp bt a b) (fun _ _ _ => rfl) ?_
    refine fe_s 1 (pc' := cond (fx_cb .ge (nI k) 21) 256 236) (lc' := [(8, .int (nI k)), (7, .int (nI j)), (5, .long x), (0, .ref 0), (1, .int (nI C)), (2, .int (nI days)), (3, .int f), (4, .int t)]) (stk' := []) (mem' := fm g tp bt a b) (fun _ _ _ => rfl) ?_
    rw [show (fx_cb .ge (nI k) 21) = false from cb_geF (a := k) (b := 21) (by omega) (by omega) (by omega)]
    dsimp only [cond]
    refine fe_s 6 (pc' := 248) (lc' := [(8, .int (nI k)), (7, .int (nI j)), (5, .long x), (0, .ref 0), (1, .int (nI C)), (2, .int (nI days)), (3, .int f), (4, .int t)]) (stk' := [.int (nI k), .ref 18, .int (nI k), .ref 17]) (mem' := fm g tp bt a b) (fun _ _ _ => rfl) ?_
    refine fe_ldL (by rfl) (by rfl) (fx_inN (i := k) (by omega) (by omega)) ?_
    rw [show Int32.toNatClampNeg (nI k) = k from nI_clamp (by omega)]
    refine fe_stL (mem' := fm g tp bt a (fm_uL b 17 (nI k : Int32).toNatClampNeg (b 18 k))) (by rfl) (by rfl) (fx_inN (i := k) (by omega) (by omega)) fm_sl17 ?_
    rw [show Int32.toNatClampNeg (nI k) = k from nI_clamp (by omega)]
    obtain ⟨b101, hb101⟩ : ∃ z, z = fm_uL b 17 (k) (b 18 k) := ⟨_, rfl⟩
    rw [← hb101]
    refine fe_s 2 (pc' := 229) (lc' := [(8, .int ((nI k) + 1)), (7, .int (nI j)), (5, .long x), (0, .ref 0), (1, .int (nI C)), (2, .int (nI days)), (3, .int f), (4, .int t)]) (stk' := []) (mem' := fm g tp bt a b101) (fun _ _ _ => rfl) ?_
    rw [show ((nI k) + 1 : Int32) = nI (k + 1) from by simp only [show (1 : Int32) = nI 1 from rfl, nI_add, fm_mul]]
    refine fe_w (lc' := [(8, .int (nI (k + 1))), (7, .int (nI j)), (5, .long x), (0, .ref 0), (1, .int (nI C)), (2, .int (nI days)), (3, .int f), (4, .int t)]) ⟨rfl, rfl, rfl, rfl, rfl, rfl, rfl, rfl, trivial⟩ (by show List.Nodup [8, 7, 5, 0, 1, 2, 3, 4]; decide) (by show List.Nodup [8, 7, 5, 0, 1, 2, 3, 4]; decide) ?_
    refine ih2 (k + 1) (by omega) _ (fun t h7 h8 => by rw [hb101, fm_uLt h7]; exact h1 t h7 h8) (fun i hi h4 => by rw [hb101, fm_uLt (by decide)]; exact h2 i hi h4) (fun i hi => ?_)
    rw [hb101, fm_uLs, fm_uLt (by decide)]
    split
    · next e => rw [e]
    · exact h3 i (by omega)
set_option maxHeartbeats 8000000 in
theorem ld_74 {b0 : Nat → Nat → Int64} {C days : Nat} {f t : Int32} (hC : C < 10) (hdays : days ≤ 10) {j : Nat} {x : Int64} (hj : j < days) (hx : x = Int64.ofNat (16 ^ j)) (ih : ∀ (b2 : Nat → Nat → Int64), fm_W b0 b2 (j + 1) → fe_R 2 gk_m352 41 [(7, .int (nI (j + 1))), (5, .long (Int64.ofNat (16 ^ (j + 1)))), (0, .ref 0), (1, .int (nI C)), (2, .int (nI days)), (3, .int f), (4, .int t)] [] (fm g tp bt a b2) (fun R => ∃ (x : Int64) (b' : Nat → Nat → Int64), x = Int64.ofNat (16 ^ days) ∧ (∀ t, t ≠ 17 → t ≠ 18 → b' t = b0 t) ∧ R = (some (.long x), fm g tp bt a b'))) : ∀ (r k : Nat), k + r = 21 → ∀ (b : Nat → Nat → Int64), fm_W b0 b j → fm_W8 b (j + 1) → fe_R 2 gk_m352 74 [(8, .int (nI k)), (7, .int (nI j)), (5, .long x), (0, .ref 0), (1, .int (nI C)), (2, .int (nI days)), (3, .int f), (4, .int t)] [] (fm g tp bt a b) (fun R => ∃ (x : Int64) (b' : Nat → Nat → Int64), x = Int64.ofNat (16 ^ days) ∧ (∀ t, t ≠ 17 → t ≠ 18 → b' t = b0 t) ∧ R = (some (.long x), fm g tp bt a b')) := by
  intro r
  induction r with
  | zero =>
    intro k hk b h1 h2
    obtain rfl : k = 21 := by omega
    refine fe_s 2 (pc' := 78) (lc' := [(8, .int (nI 21)), (7, .int (nI j)), (5, .long x), (0, .ref 0), (1, .int (nI C)), (2, .int (nI days)), (3, .int f), (4, .int t)]) (stk' := [.int 21, .int (nI 21)]) (mem' := fm g tp bt a b) (fun _ _ _ => rfl) ?_
    refine fe_s 1 (pc' := cond (fx_cb .ge (nI 21) 21) 226 81) (lc' := [(8, .int (nI 21)), (7, .int (nI j)), (5, .long x), (0, .ref 0), (1, .int (nI C)), (2, .int (nI days)), (3, .int f), (4, .int t)]) (stk' := []) (mem' := fm g tp bt a b) (fun _ _ _ => rfl) ?_
    rw [show (fx_cb .ge (nI 21) 21) = true from cb_geT (a := 21) (b := 21) (by omega) (by omega) (by omega)]
    dsimp only [cond]
    refine fe_s 2 (pc' := 229) (lc' := [(8, .int 0), (7, .int (nI j)), (5, .long x), (0, .ref 0), (1, .int (nI C)), (2, .int (nI days)), (3, .int f), (4, .int t)]) (stk' := []) (mem' := fm g tp bt a b) (fun _ _ _ => rfl) ?_
    refine fe_w (lc' := [(8, .int (nI 0)), (7, .int (nI j)), (5, .long x), (0, .ref 0), (1, .int (nI C)), (2, .int (nI days)), (3, .int f), (4, .int t)]) ⟨rfl, rfl, rfl, rfl, rfl, rfl, rfl, rfl, trivial⟩ (by show List.Nodup [8, 7, 5, 0, 1, 2, 3, 4]; decide) (by show List.Nodup [8, 7, 5, 0, 1, 2, 3, 4]; decide) ?_
    exact ld_229 hC hdays hj hx ih 21 0 (by omega) b h1.1 h2 (fun i hi => absurd hi (Nat.not_lt_zero i))
  | succ r ih2 =>
    intro k hk b h1 h2
    have hk21 : k < 21 := by omega
    refine fe_s 2 (pc' := 78) (lc' := [(8, .int (nI k)), (7, .int (nI j)), (5, .long x), (0, .ref 0), (1, .int (nI C)), (2, .int (nI days)), (3, .int f), (4, .int t)]) (stk' := [.int 21, .int (nI k)]) (mem' := fm g tp bt a b) (fun _ _ _ => rfl) ?_
    refine fe_s 1 (pc' := cond (fx_cb .ge (nI k) 21) 226 81) (lc' := [(8, .int (nI k)), (7, .int (nI j)), (5, .long x), (0, .ref 0), (1, .int (nI C)), (2, .int (nI days)), (3, .int f), (4, .int t)]) (stk' := []) (mem' := fm g tp bt a b) (fun _ _ _ => rfl) ?_
    rw [show (fx_cb .ge (nI k) 21) = false from cb_geF (a := k) (b := 21) (by omega) (by omega) (by omega)]
    dsimp only [cond]
    refine fe_s 3 (pc' := 87) (lc' := [(8, .int (nI k)), (7, .int (nI j)), (5, .long x), (0, .ref 0), (1, .int (nI C)), (2, .int (nI days)), (3, .int f), (4, .int t)]) (stk' := [.int (nI k), .ref 17]) (mem' := fm g tp bt a b) (fun _ _ _ => rfl) ?_
    refine fe_ldL (by rfl) (by rfl) (fx_inN (i := k) (by omega) (by omega)) ?_
    rw [show Int32.toNatClampNeg (nI k) = k from nI_clamp (by omega)]
    refine fe_s 2 (pc' := 90) (lc' := [(8, .int (nI k)), (7, .int (nI j)), (5, .long x), (0, .ref 0), (1, .int (nI C)), (2, .int (nI days)), (3, .int f), (4, .int t)]) (stk' := [.int (lg_cmp (b 17 k) (0 : Int64))]) (mem' := fm g tp bt a b) (fun _ _ _ => rfl) ?_
    refine fe_s 1 (pc' := cond (fx_cb .ne (lg_cmp (b 17 k) (0 : Int64)) 0) 96 93) (lc' := [(8, .int (nI k)), (7, .int (nI j)), (5, .long x), (0, .ref 0), (1, .int (nI C)), (2, .int (nI days)), (3, .int f), (4, .int t)]) (stk' := []) (mem' := fm g tp bt a b) (fun _ _ _ => rfl) ?_
    cases h101 : fx_cb .ne (lg_cmp (b 17 k) (0 : Int64)) 0
    · refine fe_s 2 (pc' := 223) (lc' := [(8, .int ((nI k) + 1)), (7, .int (nI j)), (5, .long x), (0, .ref 0), (1, .int (nI C)), (2, .int (nI days)), (3, .int f), (4, .int t)]) (stk' := []) (mem' := fm g tp bt a b) (fun _ _ _ => rfl) ?_
      rw [show ((nI k) + 1 : Int32) = nI (k + 1) from by simp only [show (1 : Int32) = nI 1 from rfl, nI_add, fm_mul]]
      refine fe_s 1 (pc' := fx_to 223 (-149)) (lc' := [(8, .int (nI (k + 1))), (7, .int (nI j)), (5, .long x), (0, .ref 0), (1, .int (nI C)), (2, .int (nI days)), (3, .int f), (4, .int t)]) (stk' := []) (mem' := fm g tp bt a b) (fun _ _ _ => rfl) ?_
      rw [show fx_to 223 (-149) = 74 from by decide]
      refine fe_w (lc' := [(8, .int (nI (k + 1))), (7, .int (nI j)), (5, .long x), (0, .ref 0), (1, .int (nI C)), (2, .int (nI days)), (3, .int f), (4, .int t)]) ⟨rfl, rfl, rfl, rfl, rfl, rfl, rfl, rfl, trivial⟩ (by show List.Nodup [8, 7, 5, 0, 1, 2, 3, 4]; decide) (by show List.Nodup [8, 7, 5, 0, 1, 2, 3, 4]; decide) ?_
      exact ih2 (k + 1) (by omega) _ h1 h2
    · have hk0 : ¬ b 17 k = 0 := fm_i64ne h101
      have hk1 : ¬ (k + j < 10 ∨ 10 + j < k) := fun z => hk0 (h1.2 k (by omega) z)
      refine fe_s 2 (pc' := 98) (lc' := [(8, .int (nI k)), (7, .int (nI j)), (5, .long x), (0, .ref 0), (1, .int (nI C)), (2, .int (nI days)), (3, .int f), (4, .int t)]) (stk' := [.int (nI C), .ref 0]) (mem' := fm g tp bt a b) (fun _ _ _ => rfl) ?_
      obtain ⟨v102, hv102⟩ := fq_bearsNow (C := C) (g := g) (tp := tp) (bt := bt) (a := a) (b := b) (by omega)
      refine fe_ivV hv102 (by omega) (by rfl) (by rfl) (by rfl) (by rfl) (by rfl) (by rfl) ?_
      refine fe_s 9 (pc' := 116) (lc' := [(9, .int ((v102 + (nI k)) - 10)), (8, .int (nI k)), (7, .int (nI j)), (5, .long x), (0, .ref 0), (1, .int (nI C)), (2, .int (nI days)), (3, .int f), (4, .int t)]) (stk' := [.int (nI k), .ref 18, .int (nI k), .ref 18]) (mem' := fm g tp bt a b) (fun _ _ _ => rfl) ?_
      refine fe_ldL (by rfl) (by rfl) (fx_inN (i := k) (by omega) (by omega)) ?_
      rw [show Int32.toNatClampNeg (nI k) = k from nI_clamp (by omega)]
      refine fe_s 3 (pc' := 123) (lc' := [(9, .int ((v102 + (nI k)) - 10)), (8, .int (nI k)), (7, .int (nI j)), (5, .long x), (0, .ref 0), (1, .int (nI C)), (2, .int (nI days)), (3, .int f), (4, .int t)]) (stk' := [.int (nI k), .ref 17, .long (b 18 k), .int (nI k), .ref 18]) (mem' := fm g tp bt a b) (fun _ _ _ => rfl) ?_
      refine fe_ldL (by rfl) (by rfl) (fx_inN (i := k) (by omega) (by omega)) ?_
      rw [show Int32.toNatClampNeg (nI k) = k from nI_clamp (by omega)]
      refine fe_s 8 (pc' := 134) (lc' := [(9, .int ((v102 + (nI k)) - 10)), (8, .int (nI k)), (7, .int (nI j)), (5, .long x), (0, .ref 0), (1, .int (nI C)), (2, .int (nI days)), (3, .int f), (4, .int t)]) (stk' := [.long ((b 18 k) + ((b 17 k) * (((16 - f) - t).toInt64))), .int (nI k), .ref 18]) (mem' := fm g tp bt a b) (fun _ _ _ => rfl) ?_
      refine fe_stL (mem' := fm g tp bt a (fm_uL b 18 (nI k : Int32).toNatClampNeg ((b 18 k) + ((b 17 k) * (((16 - f) - t).toInt64))))) (by rfl) (by rfl) (fx_inN (i := k) (by omega) (by omega)) fm_sl18 ?_
      rw [show Int32.toNatClampNeg (nI k) = k from nI_clamp (by omega)]
      obtain ⟨b103, hb103⟩ : ∃ z, z = fm_uL b 18 (k) ((b 18 k) + ((b 17 k) * (((16 - f) - t).toInt64))) := ⟨_, rfl⟩
      rw [← hb103]
      refine fe_s 4 (pc' := 144) (lc' := [(9, .int ((v102 + (nI k)) - 10)), (8, .int (nI k)), (7, .int (nI j)), (5, .long x), (0, .ref 0), (1, .int (nI C)), (2, .int (nI days)), (3, .int f), (4, .int t)]) (stk' := [.int 999, .int ((v102 + (nI k)) - 10), .ref 18]) (mem' := fm g tp bt a b103) (fun _ _ _ => rfl) ?_
      refine fe_s 1 (pc' := cond (fx_cb .ne ((v102 + (nI k)) - 10) 999) 152 147) (lc' := [(9, .int ((v102 + (nI k)) - 10)), (8, .int (nI k)), (7, .int (nI j)), (5, .long x), (0, .ref 0), (1, .int (nI C)), (2, .int (nI days)), (3, .int f), (4, .int t)]) (stk' := [.ref 18]) (mem' := fm g tp bt a b103) (fun _ _ _ => rfl) ?_
      cases h104 : fx_cb .ne ((v102 + (nI k)) - 10) 999
      · refine fe_s 3 (pc' := 157) (lc' := [(9, .int ((v102 + (nI k)) - 10)), (8, .int (nI k)), (7, .int (nI j)), (5, .long x), (0, .ref 0), (1, .int (nI C)), (2, .int (nI days)), (3, .int f), (4, .int t)]) (stk' := [.int (nI k), .ref 18, .int (nI k), .ref 18]) (mem' := fm g tp bt a b103) (fun _ _ _ => rfl) ?_
        refine fe_ldL (by rfl) (by rfl) (fx_inN (i := k) (by omega) (by omega)) ?_
        rw [show Int32.toNatClampNeg (nI k) = k from nI_clamp (by omega)]
        refine fe_s 1 (pc' := 159) (lc' := [(9, .int ((v102 + (nI k)) - 10)), (8, .int (nI k)), (7, .int (nI j)), (5, .long x), (0, .ref 0), (1, .int (nI C)), (2, .int (nI days)), (3, .int f), (4, .int t)]) (stk' := [.int f, .long (b103 18 k), .int (nI k), .ref 18]) (mem' := fm g tp bt a b103) (fun _ _ _ => rfl) ?_
        refine fe_s 1 (pc' := cond (fx_cb .ne f 0) 166 162) (lc' := [(9, .int ((v102 + (nI k)) - 10)), (8, .int (nI k)), (7, .int (nI j)), (5, .long x), (0, .ref 0), (1, .int (nI C)), (2, .int (nI days)), (3, .int f), (4, .int t)]) (stk' := [.long (b103 18 k), .int (nI k), .ref 18]) (mem' := fm g tp bt a b103) (fun _ _ _ => rfl) ?_
        cases h105 : fx_cb .ne f 0
        · refine fe_s 3 (pc' := 177) (lc' := [(9, .int ((v102 + (nI k)) - 10)), (8, .int (nI k)), (7, .int (nI j)), (5, .long x), (0, .ref 0), (1, .int (nI C)), (2, .int (nI days)), (3, .int f), (4, .int t)]) (stk' := [.long ((b103 18 k) + (0 : Int64)), .int (nI k), .ref 18]) (mem' := fm g tp bt a b103) (fun _ _ _ => rfl) ?_
          refine fe_stL (mem' := fm g tp bt a (fm_uL b103 18 (nI k : Int32).toNatClampNeg ((b103 18 k) + (0 : Int64)))) (by rfl) (by rfl) (fx_inN (i := k) (by omega) (by omega)) fm_sl18 ?_
          rw [show Int32.toNatClampNeg (nI k) = k from nI_clamp (by omega)]
          obtain ⟨b106, hb106⟩ : ∃ z, z = fm_uL b103 18 (k) ((b103 18 k) + (0 : Int64)) := ⟨_, rfl⟩
          rw [← hb106]
          refine fe_s 3 (pc' := 184) (lc' := [(9, .int ((v102 + (nI k)) - 10)), (8, .int (nI k)), (7, .int (nI j)), (5, .long x), (0, .ref 0), (1, .int (nI C)), (2, .int (nI days)), (3, .int f), (4, .int t)]) (stk' := [.int ((v102 + (nI k)) - 10), .ref 18]) (mem' := fm g tp bt a b106) (fun _ _ _ => rfl) ?_
          refine fe_s 1 (pc' := cond (fx_cb .ne ((v102 + (nI k)) - 10) 0) 192 187) (lc' := [(9, .int ((v102 + (nI k)) - 10)), (8, .int (nI k)), (7, .int (nI j)), (5, .long x), (0, .ref 0), (1, .int (nI C)), (2, .int (nI days)), (3, .int f), (4, .int t)]) (stk' := [.ref 18]) (mem' := fm g tp bt a b106) (fun _ _ _ => rfl) ?_
          cases h107 : fx_cb .ne ((v102 + (nI k)) - 10) 0
          · refine fe_s 3 (pc' := 197) (lc' := [(9, .int ((v102 + (nI k)) - 10)), (8, .int (nI k)), (7, .int (nI j)), (5, .long x), (0, .ref 0), (1, .int (nI C)), (2, .int (nI days)), (3, .int f), (4, .int t)]) (stk' := [.int (nI k), .ref 18, .int (nI k), .ref 18]) (mem' := fm g tp bt a b106) (fun _ _ _ => rfl) ?_
            refine fe_ldL (by rfl) (by rfl) (fx_inN (i := k) (by omega) (by omega)) ?_
            rw [show Int32.toNatClampNeg (nI k) = k from nI_clamp (by omega)]
            refine fe_s 1 (pc' := 200) (lc' := [(9, .int ((v102 + (nI k)) - 10)), (8, .int (nI k)), (7, .int (nI j)), (5, .long x), (0, .ref 0), (1, .int (nI C)), (2, .int (nI days)), (3, .int f), (4, .int t)]) (stk' := [.int t, .long (b106 18 k), .int (nI k), .ref 18]) (mem' := fm g tp bt a b106) (fun _ _ _ => rfl) ?_
            refine fe_s 1 (pc' := cond (fx_cb .ne t 0) 207 203) (lc' := [(9, .int ((v102 + (nI k)) - 10)), (8, .int (nI k)), (7, .int (nI j)), (5, .long x), (0, .ref 0), (1, .int (nI C)), (2, .int (nI days)), (3, .int f), (4, .int t)]) (stk' := [.long (b106 18 k), .int (nI k), .ref 18]) (mem' := fm g tp bt a b106) (fun _ _ _ => rfl) ?_
            cases h108 : fx_cb .ne t 0
            · refine fe_s 3 (pc' := 219) (lc' := [(9, .int ((v102 + (nI k)) - 10)), (8, .int (nI k)), (7, .int (nI j)), (5, .long x), (0, .ref 0), (1, .int (nI C)), (2, .int (nI days)), (3, .int f), (4, .int t)]) (stk' := [.long ((b106 18 k) + (0 : Int64)), .int (nI k), .ref 18]) (mem' := fm g tp bt a b106) (fun _ _ _ => rfl) ?_
              refine fe_stL (mem' := fm g tp bt a (fm_uL b106 18 (nI k : Int32).toNatClampNeg ((b106 18 k) + (0 : Int64)))) (by rfl) (by rfl) (fx_inN (i := k) (by omega) (by omega)) fm_sl18 ?_
              rw [show Int32.toNatClampNeg (nI k) = k from nI_clamp (by omega)]
              obtain ⟨b109, hb109⟩ : ∃ z, z = fm_uL b106 18 (k) ((b106 18 k) + (0 : Int64)) := ⟨_, rfl⟩
              rw [← hb109]
              refine fe_s 1 (pc' := 223) (lc' := [(8, .int ((nI k) + 1)), (9, .int ((v102 + (nI k)) - 10)), (7, .int (nI j)), (5, .long x), (0, .ref 0), (1, .int (nI C)), (2, .int (nI days)), (3, .int f), (4, .int t)]) (stk' := []) (mem' := fm g tp bt a b109) (fun _ _ _ => rfl) ?_
              rw [show ((nI k) + 1 : Int32) = nI (k + 1) from by simp only [show (1 : Int32) = nI 1 from rfl, nI_add, fm_mul]]
              refine fe_s 1 (pc' := fx_to 223 (-149)) (lc' := [(8, .int (nI (k + 1))), (9, .int ((v102 + (nI k)) - 10)), (7, .int (nI j)), (5, .long x), (0, .ref 0), (1, .int (nI C)), (2, .int (nI days)), (3, .int f), (4, .int t)]) (stk' := []) (mem' := fm g tp bt a b109) (fun _ _ _ => rfl) ?_
              rw [show fx_to 223 (-149) = 74 from by decide]
              refine fe_w (lc' := [(8, .int (nI (k + 1))), (7, .int (nI j)), (5, .long x), (0, .ref 0), (1, .int (nI C)), (2, .int (nI days)), (3, .int f), (4, .int t)]) ⟨rfl, rfl, rfl, rfl, rfl, rfl, rfl, rfl, trivial⟩ (by show List.Nodup [8, 7, 5, 0, 1, 2, 3, 4]; decide) (by show List.Nodup [8, 9, 7, 5, 0, 1, 2, 3, 4]; decide) ?_
              have wb103 := fm_W_8 h1 hb103
              have zb103 := fm_W8_u h2 (by omega) hb103
              have wb106 := fm_W_8 wb103 hb106
              have zb106 := fm_W8_u zb103 (by omega) hb106
              have wb109 := fm_W_8 wb106 hb109
              have zb109 := fm_W8_u zb106 (by omega) hb109
              exact ih2 (k + 1) (by omega) _ wb109 zb109
            · refine fe_s 3 (pc' := 213) (lc' := [(9, .int ((v102 + (nI k)) - 10)), (8, .int (nI k)), (7, .int (nI j)), (5, .long x), (0, .ref 0), (1, .int (nI C)), (2, .int (nI days)), (3, .int f), (4, .int t)]) (stk' := [.int (nI k), .ref 17, .long (b106 18 k), .int (nI k), .ref 18]) (mem' := fm g tp bt a b106) (fun _ _ _ => rfl) ?_
              refine fe_ldL (by rfl) (by rfl) (fx_inN (i := k) (by omega) (by omega)) ?_
              rw [show Int32.toNatClampNeg (nI k) = k from nI_clamp (by omega)]
              refine fe_s 4 (pc' := 219) (lc' := [(9, .int ((v102 + (nI k)) - 10)), (8, .int (nI k)), (7, .int (nI j)), (5, .long x), (0, .ref 0), (1, .int (nI C)), (2, .int (nI days)), (3, .int f), (4, .int t)]) (stk' := [.long ((b106 18 k) + ((b106 17 k) * (t.toInt64))), .int (nI k), .ref 18]) (mem' := fm g tp bt a b106) (fun _ _ _ => rfl) ?_
              refine fe_stL (mem' := fm g tp bt a (fm_uL b106 18 (nI k : Int32).toNatClampNeg ((b106 18 k) + ((b106 17 k) * (t.toInt64))))) (by rfl) (by rfl) (fx_inN (i := k) (by omega) (by omega)) fm_sl18 ?_
              rw [show Int32.toNatClampNeg (nI k) = k from nI_clamp (by omega)]
              obtain ⟨b110, hb110⟩ : ∃ z, z = fm_uL b106 18 (k) ((b106 18 k) + ((b106 17 k) * (t.toInt64))) := ⟨_, rfl⟩
              rw [← hb110]
              refine fe_s 1 (pc' := 223) (lc' := [(8, .int ((nI k) + 1)), (9, .int ((v102 + (nI k)) - 10)), (7, .int (nI j)), (5, .long x), (0, .ref 0), (1, .int (nI C)), (2, .int (nI days)), (3, .int f), (4, .int t)]) (stk' := []) (mem' := fm g tp bt a b110) (fun _ _ _ => rfl) ?_
              rw [show ((nI k) + 1 : Int32) = nI (k + 1) from by simp only [show (1 : Int32) = nI 1 from rfl, nI_add, fm_mul]]
              refine fe_s 1 (pc' := fx_to 223 (-149)) (lc' := [(8, .int (nI (k + 1))), (9, .int ((v102 + (nI k)) - 10)), (7, .int (nI j)), (5, .long x), (0, .ref 0), (1, .int (nI C)), (2, .int (nI days)), (3, .int f), (4, .int t)]) (stk' := []) (mem' := fm g tp bt a b110) (fun _ _ _ => rfl) ?_
              rw [show fx_to 223 (-149) = 74 from by decide]
              refine fe_w (lc' := [(8, .int (nI (k + 1))), (7, .int (nI j)), (5, .long x), (0, .ref 0), (1, .int (nI C)), (2, .int (nI days)), (3, .int f), (4, .int t)]) ⟨rfl, rfl, rfl, rfl, rfl, rfl, rfl, rfl, trivial⟩ (by show List.Nodup [8, 7, 5, 0, 1, 2, 3, 4]; decide) (by show List.Nodup [8, 9, 7, 5, 0, 1, 2, 3, 4]; decide) ?_
              have wb103 := fm_W_8 h1 hb103
              have zb103 := fm_W8_u h2 (by omega) hb103
              have wb106 := fm_W_8 wb103 hb106
              have zb106 := fm_W8_u zb103 (by omega) hb106
              have wb110 := fm_W_8 wb106 hb110
              have zb110 := fm_W8_u zb106 (by omega) hb110
              exact ih2 (k + 1) (by omega) _ wb110 zb110
          · refine fe_s 4 (pc' := 197) (lc' := [(9, .int ((v102 + (nI k)) - 10)), (8, .int (nI k)), (7, .int (nI j)), (5, .long x), (0, .ref 0), (1, .int (nI C)), (2, .int (nI days)), (3, .int f), (4, .int t)]) (stk' := [.int ((nI k) - 1), .ref 18, .int ((nI k) - 1), .ref 18]) (mem' := fm g tp bt a b106) (fun _ _ _ => rfl) ?_
            rw [show ((nI k) - 1 : Int32) = nI (k - 1) from by simp only [show (1 : Int32) = nI 1 from rfl, tg_sub2 (x := k) (y := 1) (by omega), nI_add, fm_mul]]
            refine fe_ldL (by rfl) (by rfl) (fx_inN (i := k - 1) (by omega) (by omega)) ?_
            rw [show Int32.toNatClampNeg (nI (k - 1)) = k - 1 from nI_clamp (by omega)]
            refine fe_s 1 (pc' := 200) (lc' := [(9, .int ((v102 + (nI k)) - 10)), (8, .int (nI k)), (7, .int (nI j)), (5, .long x), (0, .ref 0), (1, .int (nI C)), (2, .int (nI days)), (3, .int f), (4, .int t)]) (stk' := [.int t, .long (b106 18 (k - 1)), .int (nI (k - 1)), .ref 18]) (mem' := fm g tp bt a b106) (fun _ _ _ => rfl) ?_
            refine fe_s 1 (pc' := cond (fx_cb .ne t 0) 207 203) (lc' := [(9, .int ((v102 + (nI k)) - 10)), (8, .int (nI k)), (7, .int (nI j)), (5, .long x), (0, .ref 0), (1, .int (nI C)), (2, .int (nI days)), (3, .int f), (4, .int t)]) (stk' := [.long (b106 18 (k - 1)), .int (nI (k - 1)), .ref 18]) (mem' := fm g tp bt a b106) (fun _ _ _ => rfl) ?_
            cases h111 : fx_cb .ne t 0
            · refine fe_s 3 (pc' := 219) (lc' := [(9, .int ((v102 + (nI k)) - 10)), (8, .int (nI k)), (7, .int (nI j)), (5, .long x), (0, .ref 0), (1, .int (nI C)), (2, .int (nI days)), (3, .int f), (4, .int t)]) (stk' := [.long ((b106 18 (k - 1)) + (0 : Int64)), .int (nI (k - 1)), .ref 18]) (mem' := fm g tp bt a b106) (fun _ _ _ => rfl) ?_
              refine fe_stL (mem' := fm g tp bt a (fm_uL b106 18 (nI (k - 1) : Int32).toNatClampNeg ((b106 18 (k - 1)) + (0 : Int64)))) (by rfl) (by rfl) (fx_inN (i := k - 1) (by omega) (by omega)) fm_sl18 ?_
              rw [show Int32.toNatClampNeg (nI (k - 1)) = k - 1 from nI_clamp (by omega)]
              obtain ⟨b112, hb112⟩ : ∃ z, z = fm_uL b106 18 (k - 1) ((b106 18 (k - 1)) + (0 : Int64)) := ⟨_, rfl⟩
              rw [← hb112]
              refine fe_s 1 (pc' := 223) (lc' := [(8, .int ((nI k) + 1)), (9, .int ((v102 + (nI k)) - 10)), (7, .int (nI j)), (5, .long x), (0, .ref 0), (1, .int (nI C)), (2, .int (nI days)), (3, .int f), (4, .int t)]) (stk' := []) (mem' := fm g tp bt a b112) (fun _ _ _ => rfl) ?_
              rw [show ((nI k) + 1 : Int32) = nI (k + 1) from by simp only [show (1 : Int32) = nI 1 from rfl, nI_add, fm_mul]]
              refine fe_s 1 (pc' := fx_to 223 (-149)) (lc' := [(8, .int (nI (k + 1))), (9, .int ((v102 + (nI k)) - 10)), (7, .int (nI j)), (5, .long x), (0, .ref 0), (1, .int (nI C)), (2, .int (nI days)), (3, .int f), (4, .int t)]) (stk' := []) (mem' := fm g tp bt a b112) (fun _ _ _ => rfl) ?_
              rw [show fx_to 223 (-149) = 74 from by decide]
              refine fe_w (lc' := [(8, .int (nI (k + 1))), (7, .int (nI j)), (5, .long x), (0, .ref 0), (1, .int (nI C)), (2, .int (nI days)), (3, .int f), (4, .int t)]) ⟨rfl, rfl, rfl, rfl, rfl, rfl, rfl, rfl, trivial⟩ (by show List.Nodup [8, 7, 5, 0, 1, 2, 3, 4]; decide) (by show List.Nodup [8, 9, 7, 5, 0, 1, 2, 3, 4]; decide) ?_
              have wb103 := fm_W_8 h1 hb103
              have zb103 := fm_W8_u h2 (by omega) hb103
              have wb106 := fm_W_8 wb103 hb106
              have zb106 := fm_W8_u zb103 (by omega) hb106
              have wb112 := fm_W_8 wb106 hb112
              have zb112 := fm_W8_u zb106 (by omega) hb112
              exact ih2 (k + 1) (by omega) _ wb112 zb112
            · refine fe_s 3 (pc' := 213) (lc' := [(9, .int ((v102 + (nI k)) - 10)), (8, .int (nI k)), (7, .int (nI j)), (5, .long x), (0, .ref 0), (1, .int (nI C)), (2, .int (nI days)), (3, .int f), (4, .int t)]) (stk' := [.int (nI k), .ref 17, .long (b106 18 (k - 1)), .int (nI (k - 1)), .ref 18]) (mem' := fm g tp bt a b106) (fun _ _ _ => rfl) ?_
              refine fe_ldL (by rfl) (by rfl) (fx_inN (i := k) (by omega) (by omega)) ?_
              rw [show Int32.toNatClampNeg (nI k) = k from nI_clamp (by omega)]
              refine fe_s 4 (pc' := 219) (lc' := [(9, .int ((v102 + (nI k)) - 10)), (8, .int (nI k)), (7, .int (nI j)), (5, .long x), (0, .ref 0), (1, .int (nI C)), (2, .int (nI days)), (3, .int f), (4, .int t)]) (stk' := [.long ((b106 18 (k - 1)) + ((b106 17 k) * (t.toInt64))), .int (nI (k - 1)), .ref 18]) (mem' := fm g tp bt a b106) (fun _ _ _ => rfl) ?_
              refine fe_stL (mem' := fm g tp bt a (fm_uL b106 18 (nI (k - 1) : Int32).toNatClampNeg ((b106 18 (k - 1)) + ((b106 17 k) * (t.toInt64))))) (by rfl) (by rfl) (fx_inN (i := k - 1) (by omega) (by omega)) fm_sl18 ?_
              rw [show Int32.toNatClampNeg (nI (k - 1)) = k - 1 from nI_clamp (by omega)]
              obtain ⟨b113, hb113⟩ : ∃ z, z = fm_uL b106 18 (k - 1) ((b106 18 (k - 1)) + ((b106 17 k) * (t.toInt64))) := ⟨_, rfl⟩
              rw [← hb113]
              refine fe_s 1 (pc' := 223) (lc' := [(8, .int ((nI k) + 1)), (9, .int ((v102 + (nI k)) - 10)), (7, .int (nI j)), (5, .long x), (0, .ref 0), (1, .int (nI C)), (2, .int (nI days)), (3, .int f), (4, .int t)]) (stk' := []) (mem' := fm g tp bt a b113) (fun _ _ _ => rfl) ?_
              rw [show ((nI k) + 1 : Int32) = nI (k + 1) from by simp only [show (1 : Int32) = nI 1 from rfl, nI_add, fm_mul]]
              refine fe_s 1 (pc' := fx_to 223 (-149)) (lc' := [(8, .int (nI (k + 1))), (9, .int ((v102 + (nI k)) - 10)), (7, .int (nI j)), (5, .long x), (0, .ref 0), (1, .int (nI C)), (2, .int (nI days)), (3, .int f), (4, .int t)]) (stk' := []) (mem' := fm g tp bt a b113) (fun _ _ _ => rfl) ?_
              rw [show fx_to 223 (-149) = 74 from by decide]
              refine fe_w (lc' := [(8, .int (nI (k + 1))), (7, .int (nI j)), (5, .long x), (0, .ref 0), (1, .int (nI C)), (2, .int (nI days)), (3, .int f), (4, .int t)]) ⟨rfl, rfl, rfl, rfl, rfl, rfl, rfl, rfl, trivial⟩ (by show List.Nodup [8, 7, 5, 0, 1, 2, 3, 4]; decide) (by show List.Nodup [8, 9, 7, 5, 0, 1, 2, 3, 4]; decide) ?_
              have wb103 := fm_W_8 h1 hb103
              have zb103 := fm_W8_u h2 (by omega) hb103
              have wb106 := fm_W_8 wb103 hb106
              have zb106 := fm_W8_u zb103 (by omega) hb106
              have wb113 := fm_W_8 wb106 hb113
              have zb113 := fm_W8_u zb106 (by omega) hb113
              exact ih2 (k + 1) (by omega) _ wb113 zb113
        · refine fe_s 3 (pc' := 172) (lc' := [(9, .int ((v102 + (nI k)) - 10)), (8, .int (nI k)), (7, .int (nI j)), (5, .long x), (0, .ref 0), (1, .int (nI C)), (2, .int (nI days)), (3, .int f), (4, .int t)]) (stk' := [.int (nI k), .ref 17, .long (b103 18 k), .int (nI k), .ref 18]) (mem' := fm g tp bt a b103) (fun _ _ _ => rfl) ?_
          refine fe_ldL (by rfl) (by rfl) (fx_inN (i := k) (by omega) (by omega)) ?_
          rw [show Int32.toNatClampNeg (nI k) = k from nI_clamp (by omega)]
          refine fe_s 4 (pc' := 177) (lc' := [(9, .int ((v102 + (nI k)) - 10)), (8, .int (nI k)), (7, .int (nI j)), (5, .long x), (0, .ref 0), (1, .int (nI C)), (2, .int (nI days)), (3, .int f), (4, .int t)]) (stk' := [.long ((b103 18 k) + ((b103 17 k) * (f.toInt64))), .int (nI k), .ref 18]) (mem' := fm g tp bt a b103) (fun _ _ _ => rfl) ?_
          refine fe_stL (mem' := fm g tp bt a (fm_uL b103 18 (nI k : Int32).toNatClampNeg ((b103 18 k) + ((b103 17 k) * (f.toInt64))))) (by rfl) (by rfl) (fx_inN (i := k) (by omega) (by omega)) fm_sl18 ?_
          rw [show Int32.toNatClampNeg (nI k) = k from nI_clamp (by omega)]
          obtain ⟨b114, hb114⟩ : ∃ z, z = fm_uL b103 18 (k) ((b103 18 k) + ((b103 17 k) * (f.toInt64))) := ⟨_, rfl⟩
          rw [← hb114]
          refine fe_s 3 (pc' := 184) (lc' := [(9, .int ((v102 + (nI k)) - 10)), (8, .int (nI k)), (7, .int (nI j)), (5, .long x), (0, .ref 0), (1, .int (nI C)), (2, .int (nI days)), (3, .int f), (4, .int t)]) (stk' := [.int ((v102 + (nI k)) - 10), .ref 18]) (mem' := fm g tp bt a b114) (fun _ _ _ => rfl) ?_
          refine fe_s 1 (pc' := cond (fx_cb .ne ((v102 + (nI k)) - 10) 0) 192 187) (lc' := [(9, .int ((v102 + (nI k)) - 10)), (8, .int (nI k)), (7, .int (nI j)), (5, .long x), (0, .ref 0), (1, .int (nI C)), (2, .int (nI days)), (3, .int f), (4, .int t)]) (stk' := [.ref 18]) (mem' := fm g tp bt a b114) (fun _ _ _ => rfl) ?_
          cases h115 : fx_cb .ne ((v102 + (nI k)) - 10) 0
          · refine fe_s 3 (pc' := 197) (lc' := [(9, .int ((v102 + (nI k)) - 10)), (8, .int (nI k)), (7, .int (nI j)), (5, .long x), (0, .ref 0), (1, .int (nI C)), (2, .int (nI days)), (3, .int f), (4, .int t)]) (stk' := [.int (nI k), .ref 18, .int (nI k), .ref 18]) (mem' := fm g tp bt a b114) (fun _ _ _ => rfl) ?_
            refine fe_ldL (by rfl) (by rfl) (fx_inN (i := k) (by omega) (by omega)) ?_
            rw [show Int32.toNatClampNeg (nI k) = k from nI_clamp (by omega)]
            refine fe_s 1 (pc' := 200) (lc' := [(9, .int ((v102 + (nI k)) - 10)), (8, .int (nI k)), (7, .int (nI j)), (5, .long x), (0, .ref 0), (1, .int (nI C)), (2, .int (nI days)), (3, .int f), (4, .int t)]) (stk' := [.int t, .long (b114 18 k), .int (nI k), .ref 18]) (mem' := fm g tp bt a b114) (fun _ _ _ => rfl) ?_
            refine fe_s 1 (pc' := cond (fx_cb .ne t 0) 207 203) (lc' := [(9, .int ((v102 + (nI k)) - 10)), (8, .int (nI k)), (7, .int (nI j)), (5, .long x), (0, .ref 0), (1, .int (nI C)), (2, .int (nI days)), (3, .int f), (4, .int t)]) (stk' := [.long (b114 18 k), .int (nI k), .ref 18]) (mem' := fm g tp bt a b114) (fun _ _ _ => rfl) ?_
            cases h116 : fx_cb .ne t 0
            · refine fe_s 3 (pc' := 219) (lc' := [(9, .int ((v102 + (nI k)) - 10)), (8, .int (nI k)), (7, .int (nI j)), (5, .long x), (0, .ref 0), (1, .int (nI C)), (2, .int (nI days)), (3, .int f), (4, .int t)]) (stk' := [.long ((b114 18 k) + (0 : Int64)), .int (nI k), .ref 18]) (mem' := fm g tp bt a b114) (fun _ _ _ => rfl) ?_
              refine fe_stL (mem' := fm g tp bt a (fm_uL b114 18 (nI k : Int32).toNatClampNeg ((b114 18 k) + (0 : Int64)))) (by rfl) (by rfl) (fx_inN (i := k) (by omega) (by omega)) fm_sl18 ?_
              rw [show Int32.toNatClampNeg (nI k) = k from nI_clamp (by omega)]
              obtain ⟨b117, hb117⟩ : ∃ z, z = fm_uL b114 18 (k) ((b114 18 k) + (0 : Int64)) := ⟨_, rfl⟩
              rw [← hb117]
              refine fe_s 1 (pc' := 223) (lc' := [(8, .int ((nI k) + 1)), (9, .int ((v102 + (nI k)) - 10)), (7, .int (nI j)), (5, .long x), (0, .ref 0), (1, .int (nI C)), (2, .int (nI days)), (3, .int f), (4, .int t)]) (stk' := []) (mem' := fm g tp bt a b117) (fun _ _ _ => rfl) ?_
              rw [show ((nI k) + 1 : Int32) = nI (k + 1) from by simp only [show (1 : Int32) = nI 1 from rfl, nI_add, fm_mul]]
              refine fe_s 1 (pc' := fx_to 223 (-149)) (lc' := [(8, .int (nI (k + 1))), (9, .int ((v102 + (nI k)) - 10)), (7, .int (nI j)), (5, .long x), (0, .ref 0), (1, .int (nI C)), (2, .int (nI days)), (3, .int f), (4, .int t)]) (stk' := []) (mem' := fm g tp bt a b117) (fun _ _ _ => rfl) ?_
              rw [show fx_to 223 (-149) = 74 from by decide]
              refine fe_w (lc' := [(8, .int (nI (k + 1))), (7, .int (nI j)), (5, .long x), (0, .ref 0), (1, .int (nI C)), (2, .int (nI days)), (3, .int f), (4, .int t)]) ⟨rfl, rfl, rfl, rfl, rfl, rfl, rfl, rfl, trivial⟩ (by show List.Nodup [8, 7, 5, 0, 1, 2, 3, 4]; decide) (by show List.Nodup [8, 9, 7, 5, 0, 1, 2, 3, 4]; decide) ?_
              have wb103 := fm_W_8 h1 hb103
              have zb103 := fm_W8_u h2 (by omega) hb103
              have wb114 := fm_W_8 wb103 hb114
              have zb114 := fm_W8_u zb103 (by omega) hb114
              have wb117 := fm_W_8 wb114 hb117
              have zb117 := fm_W8_u zb114 (by omega) hb117
              exact ih2 (k + 1) (by omega) _ wb117 zb117
            · refine fe_s 3 (pc' := 213) (lc' := [(9, .int ((v102 + (nI k)) - 10)), (8, .int (nI k)), (7, .int (nI j)), (5, .long x), (0, .ref 0), (1, .int (nI C)), (2, .int (nI days)), (3, .int f), (4, .int t)]) (stk' := [.int (nI k), .ref 17, .long (b114 18 k), .int (nI k), .ref 18]) (mem' := fm g tp bt a b114) (fun _ _ _ => rfl) ?_
              refine fe_ldL (by rfl) (by rfl) (fx_inN (i := k) (by omega) (by omega)) ?_
              rw [show Int32.toNatClampNeg (nI k) = k from nI_clamp (by omega)]
              refine fe_s 4 (pc' := 219) (lc' := [(9, .int ((v102 + (nI k)) - 10)), (8, .int (nI k)), (7, .int (nI j)), (5, .long x), (0, .ref 0), (1, .int (nI C)), (2, .int (nI days)), (3, .int f), (4, .int t)]) (stk' := [.long ((b114 18 k) + ((b114 17 k) * (t.toInt64))), .int (nI k), .ref 18]) (mem' := fm g tp bt a b114) (fun _ _ _ => rfl) ?_
              refine fe_stL (mem' := fm g tp bt a (fm_uL b114 18 (nI k : Int32).toNatClampNeg ((b114 18 k) + ((b114 17 k) * (t.toInt64))))) (by rfl) (by rfl) (fx_inN (i := k) (by omega) (by omega)) fm_sl18 ?_
              rw [show Int32.toNatClampNeg (nI k) = k from nI_clamp (by omega)]
              obtain ⟨b118, hb118⟩ : ∃ z, z = fm_uL b114 18 (k) ((b114 18 k) + ((b114 17 k) * (t.toInt64))) := ⟨_, rfl⟩
              rw [← hb118]
              refine fe_s 1 (pc' := 223) (lc' := [(8, .int ((nI k) + 1)), (9, .int ((v102 + (nI k)) - 10)), (7, .int (nI j)), (5, .long x), (0, .ref 0), (1, .int (nI C)), (2, .int (nI days)), (3, .int f), (4, .int t)]) (stk' := []) (mem' := fm g tp bt a b118) (fun _ _ _ => rfl) ?_
              rw [show ((nI k) + 1 : Int32) = nI (k + 1) from by simp only [show (1 : Int32) = nI 1 from rfl, nI_add, fm_mul]]
              refine fe_s 1 (pc' := fx_to 223 (-149)) (lc' := [(8, .int (nI (k + 1))), (9, .int ((v102 + (nI k)) - 10)), (7, .int (nI j)), (5, .long x), (0, .ref 0), (1, .int (nI C)), (2, .int (nI days)), (3, .int f), (4, .int t)]) (stk' := []) (mem' := fm g tp bt a b118) (fun _ _ _ => rfl) ?_
              rw [show fx_to 223 (-149) = 74 from by decide]
              refine fe_w (lc' := [(8, .int (nI (k + 1))), (7, .int (nI j)), (5, .long x), (0, .ref 0), (1, .int (nI C)), (2, .int (nI days)), (3, .int f), (4, .int t)]) ⟨rfl, rfl, rfl, rfl, rfl, rfl, rfl, rfl, trivial⟩ (by show List.Nodup [8, 7, 5, 0, 1, 2, 3, 4]; decide) (by show List.Nodup [8, 9, 7, 5, 0, 1, 2, 3, 4]; decide) ?_
              have wb103 := fm_W_8 h1 hb103
              have zb103 := fm_W8_u h2 (by omega) hb103
              have wb114 := fm_W_8 wb103 hb114
              have zb114 := fm_W8_u zb103 (by omega) hb114
              have wb118 := fm_W_8 wb114 hb118
              have zb118 := fm_W8_u zb114 (by omega) hb118
              exact ih2 (k + 1) (by omega) _ wb118 zb118
          · refine fe_s 4 (pc' := 197) (lc' := [(9, .int ((v102 + (nI k)) - 10)), (8, .int (nI k)), (7, .int (nI j)), (5, .long x), (0, .ref 0), (1, .int (nI C)), (2, .int (nI days)), (3, .int f), (4, .int t)]) (stk' := [.int ((nI k) - 1), .ref 18, .int ((nI k) - 1), .ref 18]) (mem' := fm g tp bt a b114) (fun _ _ _ => rfl) ?_
            rw [show ((nI k) - 1 : Int32) = nI (k - 1) from by simp only [show (1 : Int32) = nI 1 from rfl, tg_sub2 (x := k) (y := 1) (by omega), nI_add, fm_mul]]
            refine fe_ldL (by rfl) (by rfl) (fx_inN (i := k - 1) (by omega) (by omega)) ?_
            rw [show Int32.toNatClampNeg (nI (k - 1)) = k - 1 from nI_clamp (by omega)]
            refine fe_s 1 (pc' := 200) (lc' := [(9, .int ((v102 + (nI k)) - 10)), (8, .int (nI k)), (7, .int (nI j)), (5, .long x), (0, .ref 0), (1, .int (nI C)), (2, .int (nI days)), (3, .int f), (4, .int t)]) (stk' := [.int t, .long (b114 18 (k - 1)), .int (nI (k - 1)), .ref 18]) (mem' := fm g tp bt a b114) (fun _ _ _ => rfl) ?_
            refine fe_s 1 (pc' := cond (fx_cb .ne t 0) 207 203) (lc' := [(9, .int ((v102 + (nI k)) - 10)), (8, .int (nI k)), (7, .int (nI j)), (5, .long x), (0, .ref 0), (1, .int (nI C)), (2, .int (nI days)), (3, .int f), (4, .int t)]) (stk' := [.long (b114 18 (k - 1)), .int (nI (k - 1)), .ref 18]) (mem' := fm g tp bt a b114) (fun _ _ _ => rfl) ?_
            cases h119 : fx_cb .ne t 0
            · refine fe_s 3 (pc' := 219) (lc' := [(9, .int ((v102 + (nI k)) - 10)), (8, .int (nI k)), (7, .int (nI j)), (5, .long x), (0, .ref 0), (1, .int (nI C)), (2, .int (nI days)), (3, .int f), (4, .int t)]) (stk' := [.long ((b114 18 (k - 1)) + (0 : Int64)), .int (nI (k - 1)), .ref 18]) (mem' := fm g tp bt a b114) (fun _ _ _ => rfl) ?_
              refine fe_stL (mem' := fm g tp bt a (fm_uL b114 18 (nI (k - 1) : Int32).toNatClampNeg ((b114 18 (k - 1)) + (0 : Int64)))) (by rfl) (by rfl) (fx_inN (i := k - 1) (by omega) (by omega)) fm_sl18 ?_
              rw [show Int32.toNatClampNeg (nI (k - 1)) = k - 1 from nI_clamp (by omega)]
              obtain ⟨b120, hb120⟩ : ∃ z, z = fm_uL b114 18 (k - 1) ((b114 18 (k - 1)) + (0 : Int64)) := ⟨_, rfl⟩
              rw [← hb120]
              refine fe_s 1 (pc' := 223) (lc' := [(8, .int ((nI k) + 1)), (9, .int ((v102 + (nI k)) - 10)), (7, .int (nI j)), (5, .long x), (0, .ref 0), (1, .int (nI C)), (2, .int (nI days)), (3, .int f), (4, .int t)]) (stk' := []) (mem' := fm g tp bt a b120) (fun _ _ _ => rfl) ?_
              rw [show ((nI k) + 1 : Int32) = nI (k + 1) from by simp only [show (1 : Int32) = nI 1 from rfl, nI_add, fm_mul]]
              refine fe_s 1 (pc' := fx_to 223 (-149)) (lc' := [(8, .int (nI (k + 1))), (9, .int ((v102 + (nI k)) - 10)), (7, .int (nI j)), (5, .long x), (0, .ref 0), (1, .int (nI C)), (2, .int (nI days)), (3, .int f), (4, .int t)]) (stk' := []) (mem' := fm g tp bt a b120) (fun _ _ _ => rfl) ?_
              rw [show fx_to 223 (-149) = 74 from by decide]
              refine fe_w (lc' := [(8, .int (nI (k + 1))), (7, .int (nI j)), (5, .long x), (0, .ref 0), (1, .int (nI C)), (2, .int (nI days)), (3, .int f), (4, .int t)]) ⟨rfl, rfl, rfl, rfl, rfl, rfl, rfl, rfl, trivial⟩ (by show List.Nodup [8, 7, 5, 0, 1, 2, 3, 4]; decide) (by show List.Nodup [8, 9, 7, 5, 0, 1, 2, 3, 4]; decide) ?_
              have wb103 := fm_W_8 h1 hb103
              have zb103 := fm_W8_u h2 (by omega) hb103
              have wb114 := fm_W_8 wb103 hb114
              have zb114 := fm_W8_u zb103 (by omega) hb114
              have wb120 := fm_W_8 wb114 hb120
              have zb120 := fm_W8_u zb114 (by omega) hb120
              exact ih2 (k + 1) (by omega) _ wb120 zb120
            · refine fe_s 3 (pc' := 213) (lc' := [(9, .int ((v102 + (nI k)) - 10)), (8, .int (nI k)), (7, .int (nI j)), (5, .long x), (0, .ref 0), (1, .int (nI C)), (2, .int (nI days)), (3, .int f), (4, .int t)]) (stk' := [.int (nI k), .ref 17, .long (b114 18 (k - 1)), .int (nI (k - 1)), .ref 18]) (mem' := fm g tp bt a b114) (fun _ _ _ => rfl) ?_
              refine fe_ldL (by rfl) (by rfl) (fx_inN (i := k) (by omega) (by omega)) ?_
              rw [show Int32.toNatClampNeg (nI k) = k from nI_clamp (by omega)]
              refine fe_s 4 (pc' := 219) (lc' := [(9, .int ((v102 + (nI k)) - 10)), (8, .int (nI k)), (7, .int (nI j)), (5, .long x), (0, .ref 0), (1, .int (nI C)), (2, .int (nI days)), (3, .int f), (4, .int t)]) (stk' := [.long ((b114 18 (k - 1)) + ((b114 17 k) * (t.toInt64))), .int (nI (k - 1)), .ref 18]) (mem' := fm g tp bt a b114) (fun _ _ _ => rfl) ?_
              refine fe_stL (mem' := fm g tp bt a (fm_uL b114 18 (nI (k - 1) : Int32).toNatClampNeg ((b114 18 (k - 1)) + ((b114 17 k) * (t.toInt64))))) (by rfl) (by rfl) (fx_inN (i := k - 1) (by omega) (by omega)) fm_sl18 ?_
              rw [show Int32.toNatClampNeg (nI (k - 1)) = k - 1 from nI_clamp (by omega)]
              obtain ⟨b121, hb121⟩ : ∃ z, z = fm_uL b114 18 (k - 1) ((b114 18 (k - 1)) + ((b114 17 k) * (t.toInt64))) := ⟨_, rfl⟩
              rw [← hb121]
              refine fe_s 1 (pc' := 223) (lc' := [(8, .int ((nI k) + 1)), (9, .int ((v102 + (nI k)) - 10)), (7, .int (nI j)), (5, .long x), (0, .ref 0), (1, .int (nI C)), (2, .int (nI days)), (3, .int f), (4, .int t)]) (stk' := []) (mem' := fm g tp bt a b121) (fun _ _ _ => rfl) ?_
              rw [show ((nI k) + 1 : Int32) = nI (k + 1) from by simp only [show (1 : Int32) = nI 1 from rfl, nI_add, fm_mul]]
              refine fe_s 1 (pc' := fx_to 223 (-149)) (lc' := [(8, .int (nI (k + 1))), (9, .int ((v102 + (nI k)) - 10)), (7, .int (nI j)), (5, .long x), (0, .ref 0), (1, .int (nI C)), (2, .int (nI days)), (3, .int f), (4, .int t)]) (stk' := []) (mem' := fm g tp bt a b121) (fun _ _ _ => rfl) ?_
              rw [show fx_to 223 (-149) = 74 from by decide]
              refine fe_w (lc' := [(8, .int (nI (k + 1))), (7, .int (nI j)), (5, .long x), (0, .ref 0), (1, .int (nI C)), (2, .int (nI days)), (3, .int f), (4, .int t)]) ⟨rfl, rfl, rfl, rfl, rfl, rfl, rfl, rfl, trivial⟩ (by show List.Nodup [8, 7, 5, 0, 1, 2, 3, 4]; decide) (by show List.Nodup [8, 9, 7, 5, 0, 1, 2, 3, 4]; decide) ?_
              have wb103 := fm_W_8 h1 hb103
              have zb103 := fm_W8_u h2 (by omega) hb103
              have wb114 := fm_W_8 wb103 hb114
              have zb114 := fm_W8_u zb103 (by omega) hb114
              have wb121 := fm_W_8 wb114 hb121
              have zb121 := fm_W8_u zb114 (by omega) hb121
              exact ih2 (k + 1) (by omega) _ wb121 zb121
      · refine fe_s 4 (pc' := 157) (lc' := [(9, .int ((v102 + (nI k)) - 10)), (8, .int (nI k)), (7, .int (nI j)), (5, .long x), (0, .ref 0), (1, .int (nI C)), (2, .int (nI days)), (3, .int f), (4, .int t)]) (stk' := [.int ((nI k) + 1), .ref 18, .int ((nI k) + 1), .ref 18]) (mem' := fm g tp bt a b103) (fun _ _ _ => rfl) ?_
        rw [show ((nI k) + 1 : Int32) = nI (k + 1) from by simp only [show (1 : Int32) = nI 1 from rfl, nI_add, fm_mul]]
        refine fe_ldL (by rfl) (by rfl) (fx_inN (i := k + 1) (by omega) (by omega)) ?_
        rw [show Int32.toNatClampNeg (nI (k + 1)) = k + 1 from nI_clamp (by omega)]
        refine fe_s 1 (pc' := 159) (lc' := [(9, .int ((v102 + (nI k)) - 10)), (8, .int (nI k)), (7, .int (nI j)), (5, .long x), (0, .ref 0), (1, .int (nI C)), (2, .int (nI days)), (3, .int f), (4, .int t)]) (stk' := [.int f, .long (b103 18 (k + 1)), .int (nI (k + 1)), .ref 18]) (mem' := fm g tp bt a b103) (fun _ _ _ => rfl) ?_
        refine fe_s 1 (pc' := cond (fx_cb .ne f 0) 166 162) (lc' := [(9, .int ((v102 + (nI k)) - 10)), (8, .int (nI k)), (7, .int (nI j)), (5, .long x), (0, .ref 0), (1, .int (nI C)), (2, .int (nI days)), (3, .int f), (4, .int t)]) (stk' := [.long (b103 18 (k + 1)), .int (nI (k + 1)), .ref 18]) (mem' := fm g tp bt a b103) (fun _ _ _ => rfl) ?_
        cases h122 : fx_cb .ne f 0
        · refine fe_s 3 (pc' := 177) (lc' := [(9, .int ((v102 + (nI k)) - 10)), (8, .int (nI k)), (7, .int (nI j)), (5, .long x), (0, .ref 0), (1, .int (nI C)), (2, .int (nI days)), (3, .int f), (4, .int t)]) (stk' := [.long ((b103 18 (k + 1)) + (0 : Int64)), .int (nI (k + 1)), .ref 18]) (mem' := fm g tp bt a b103) (fun _ _ _ => rfl) ?_
          refine fe_stL (mem' := fm g tp bt a (fm_uL b103 18 (nI (k + 1) : Int32).toNatClampNeg ((b103 18 (k + 1)) + (0 : Int64)))) (by rfl) (by rfl) (fx_inN (i := k + 1) (by omega) (by omega)) fm_sl18 ?_
          rw [show Int32.toNatClampNeg (nI (k + 1)) = k + 1 from nI_clamp (by omega)]
          obtain ⟨b123, hb123⟩ : ∃ z, z = fm_uL b103 18 (k + 1) ((b103 18 (k + 1)) + (0 : Int64)) := ⟨_, rfl⟩
          rw [← hb123]
          refine fe_s 3 (pc' := 184) (lc' := [(9, .int ((v102 + (nI k)) - 10)), (8, .int (nI k)), (7, .int (nI j)), (5, .long x), (0, .ref 0), (1, .int (nI C)), (2, .int (nI days)), (3, .int f), (4, .int t)]) (stk' := [.int ((v102 + (nI k)) - 10), .ref 18]) (mem' := fm g tp bt a b123) (fun _ _ _ => rfl) ?_
          refine fe_s 1 (pc' := cond (fx_cb .ne ((v102 + (nI k)) - 10) 0) 192 187) (lc' := [(9, .int ((v102 + (nI k)) - 10)), (8, .int (nI k)), (7, .int (nI j)), (5, .long x), (0, .ref 0), (1, .int (nI C)), (2, .int (nI days)), (3, .int f), (4, .int t)]) (stk' := [.ref 18]) (mem' := fm g tp bt a b123) (fun _ _ _ => rfl) ?_
          cases h124 : fx_cb .ne ((v102 + (nI k)) - 10) 0
          · refine fe_s 3 (pc' := 197) (lc' := [(9, .int ((v102 + (nI k)) - 10)), (8, .int (nI k)), (7, .int (nI j)), (5, .long x), (0, .ref 0), (1, .int (nI C)), (2, .int (nI days)), (3, .int f), (4, .int t)]) (stk' := [.int (nI k), .ref 18, .int (nI k), .ref 18]) (mem' := fm g tp bt a b123) (fun _ _ _ => rfl) ?_
            refine fe_ldL (by rfl) (by rfl) (fx_inN (i := k) (by omega) (by omega)) ?_
            rw [show Int32.toNatClampNeg (nI k) = k from nI_clamp (by omega)]
            refine fe_s 1 (pc' := 200) (lc' := [(9, .int ((v102 + (nI k)) - 10)), (8, .int (nI k)), (7, .int (nI j)), (5, .long x), (0, .ref 0), (1, .int (nI C)), (2, .int (nI days)), (3, .int f), (4, .int t)]) (stk' := [.int t, .long (b123 18 k), .int (nI k), .ref 18]) (mem' := fm g tp bt a b123) (fun _ _ _ => rfl) ?_
            refine fe_s 1 (pc' := cond (fx_cb .ne t 0) 207 203) (lc' := [(9, .int ((v102 + (nI k)) - 10)), (8, .int (nI k)), (7, .int (nI j)), (5, .long x), (0, .ref 0), (1, .int (nI C)), (2, .int (nI days)), (3, .int f), (4, .int t)]) (stk' := [.long (b123 18 k), .int (nI k), .ref 18]) (mem' := fm g tp bt a b123) (fun _ _ _ => rfl) ?_
            cases h125 : fx_cb .ne t 0
            · refine fe_s 3 (pc' := 219) (lc' := [(9, .int ((v102 + (nI k)) - 10)), (8, .int (nI k)), (7, .int (nI j)), (5, .long x), (0, .ref 0), (1, .int (nI C)), (2, .int (nI days)), (3, .int f), (4, .int t)]) (stk' := [.long ((b123 18 k) + (0 : Int64)), .int (nI k), .ref 18]) (mem' := fm g tp bt a b123) (fun _ _ _ => rfl) ?_
              refine fe_stL (mem' := fm g tp bt a (fm_uL b123 18 (nI k : Int32).toNatClampNeg ((b123 18 k) + (0 : Int64)))) (by rfl) (by rfl) (fx_inN (i := k) (by omega) (by omega)) fm_sl18 ?_
              rw [show Int32.toNatClampNeg (nI k) = k from nI_clamp (by omega)]
              obtain ⟨b126, hb126⟩ : ∃ z, z = fm_uL b123 18 (k) ((b123 18 k) + (0 : Int64)) := ⟨_, rfl⟩
              rw [← hb126]
              refine fe_s 1 (pc' := 223) (lc' := [(8, .int ((nI k) + 1)), (9, .int ((v102 + (nI k)) - 10)), (7, .int (nI j)), (5, .long x), (0, .ref 0), (1, .int (nI C)), (2, .int (nI days)), (3, .int f), (4, .int t)]) (stk' := []) (mem' := fm g tp bt a b126) (fun _ _ _ => rfl) ?_
              rw [show ((nI k) + 1 : Int32) = nI (k + 1) from by simp only [show (1 : Int32) = nI 1 from rfl, nI_add, fm_mul]]
              refine fe_s 1 (pc' := fx_to 223 (-149)) (lc' := [(8, .int (nI (k + 1))), (9, .int ((v102 + (nI k)) - 10)), (7, .int (nI j)), (5, .long x), (0, .ref 0), (1, .int (nI C)), (2, .int (nI days)), (3, .int f), (4, .int t)]) (stk' := []) (mem' := fm g tp bt a b126) (fun _ _ _ => rfl) ?_
              rw [show fx_to 223 (-149) = 74 from by decide]
              refine fe_w (lc' := [(8, .int (nI (k + 1))), (7, .int (nI j)), (5, .long x), (0, .ref 0), (1, .int (nI C)), (2, .int (nI days)), (3, .int f), (4, .int t)]) ⟨rfl, rfl, rfl, rfl, rfl, rfl, rfl, rfl, trivial⟩ (by show List.Nodup [8, 7, 5, 0, 1, 2, 3, 4]; decide) (by show List.Nodup [8, 9, 7, 5, 0, 1, 2, 3, 4]; decide) ?_
              have wb103 := fm_W_8 h1 hb103
              have zb103 := fm_W8_u h2 (by omega) hb103
              have wb123 := fm_W_8 wb103 hb123
              have zb123 := fm_W8_u zb103 (by omega) hb123
              have wb126 := fm_W_8 wb123 hb126
              have zb126 := fm_W8_u zb123 (by omega) hb126
              exact ih2 (k + 1) (by omega) _ wb126 zb126
            · refine fe_s 3 (pc' := 213) (lc' := [(9, .int ((v102 + (nI k)) - 10)), (8, .int (nI k)), (7, .int (nI j)), (5, .long x), (0, .ref 0), (1, .int (nI C)), (2, .int (nI days)), (3, .int f), (4, .int t)]) (stk' := [.int (nI k), .ref 17, .long (b123 18 k), .int (nI k), .ref 18]) (mem' := fm g tp bt a b123) (fun _ _ _ => rfl) ?_
              refine fe_ldL (by rfl) (by rfl) (fx_inN (i := k) (by omega) (by omega)) ?_
              rw [show Int32.toNatClampNeg (nI k) = k from nI_clamp (by omega)]
              refine fe_s 4 (pc' := 219) (lc' := [(9, .int ((v102 + (nI k)) - 10)), (8, .int (nI k)), (7, .int (nI j)), (5, .long x), (0, .ref 0), (1, .int (nI C)), (2, .int (nI days)), (3, .int f), (4, .int t)]) (stk' := [.long ((b123 18 k) + ((b123 17 k) * (t.toInt64))), .int (nI k), .ref 18]) (mem' := fm g tp bt a b123) (fun _ _ _ => rfl) ?_
              refine fe_stL (mem' := fm g tp bt a (fm_uL b123 18 (nI k : Int32).toNatClampNeg ((b123 18 k) + ((b123 17 k) * (t.toInt64))))) (by rfl) (by rfl) (fx_inN (i := k) (by omega) (by omega)) fm_sl18 ?_
              rw [show Int32.toNatClampNeg (nI k) = k from nI_clamp (by omega)]
              obtain ⟨b127, hb127⟩ : ∃ z, z = fm_uL b123 18 (k) ((b123 18 k) + ((b123 17 k) * (t.toInt64))) := ⟨_, rfl⟩
              rw [← hb127]
              refine fe_s 1 (pc' := 223) (lc' := [(8, .int ((nI k) + 1)), (9, .int ((v102 + (nI k)) - 10)), (7, .int (nI j)), (5, .long x), (0, .ref 0), (1, .int (nI C)), (2, .int (nI days)), (3, .int f), (4, .int t)]) (stk' := []) (mem' := fm g tp bt a b127) (fun _ _ _ => rfl) ?_
              rw [show ((nI k) + 1 : Int32) = nI (k + 1) from by simp only [show (1 : Int32) = nI 1 from rfl, nI_add, fm_mul]]
              refine fe_s 1 (pc' := fx_to 223 (-149)) (lc' := [(8, .int (nI (k + 1))), (9, .int ((v102 + (nI k)) - 10)), (7, .int (nI j)), (5, .long x), (0, .ref 0), (1, .int (nI C)), (2, .int (nI days)), (3, .int f), (4, .int t)]) (stk' := []) (mem' := fm g tp bt a b127) (fun _ _ _ => rfl) ?_
              rw [show fx_to 223 (-149) = 74 from by decide]
              refine fe_w (lc' := [(8, .int (nI (k + 1))), (7, .int (nI j)), (5, .long x), (0, .ref 0), (1, .int (nI C)), (2, .int (nI days)), (3, .int f), (4, .int t)]) ⟨rfl, rfl, rfl, rfl, rfl, rfl, rfl, rfl, trivial⟩ (by show List.Nodup [8, 7, 5, 0, 1, 2, 3, 4]; decide) (by show List.Nodup [8, 9, 7, 5, 0, 1, 2, 3, 4]; decide) ?_
              have wb103 := fm_W_8 h1 hb103
              have zb103 := fm_W8_u h2 (by omega) hb103
              have wb123 := fm_W_8 wb103 hb123
              have zb123 := fm_W8_u zb103 (by omega) hb123
              have wb127 := fm_W_8 wb123 hb127
              have zb127 := fm_W8_u zb123 (by omega) hb127
              exact ih2 (k + 1) (by omega) _ wb127 zb127
          · refine fe_s 4 (pc' := 197) (lc' := [(9, .int ((v102 + (nI k)) - 10)), (8, .int (nI k)), (7, .int (nI j)), (5, .long x), (0, .ref 0), (1, .int (nI C)), (2, .int (nI days)), (3, .int f), (4, .int t)]) (stk' := [.int ((nI k) - 1), .ref 18, .int ((nI k) - 1), .ref 18]) (mem' := fm g tp bt a b123) (fun _ _ _ => rfl) ?_
            rw [show ((nI k) - 1 : Int32) = nI (k - 1) from by simp only [show (1 : Int32) = nI 1 from rfl, tg_sub2 (x := k) (y := 1) (by omega), nI_add, fm_mul]]
            refine fe_ldL (by rfl) (by rfl) (fx_inN (i := k - 1) (by omega) (by omega)) ?_
            rw [show Int32.toNatClampNeg (nI (k - 1)) = k - 1 from nI_clamp (by omega)]
            refine fe_s 1 (pc' := 200) (lc' := [(9, .int ((v102 + (nI k)) - 10)), (8, .int (nI k)), (7, .int (nI j)), (5, .long x), (0, .ref 0), (1, .int (nI C)), (2, .int (nI days)), (3, .int f), (4, .int t)]) (stk' := [.int t, .long (b123 18 (k - 1)), .int (nI (k - 1)), .ref 18]) (mem' := fm g tp bt a b123) (fun _ _ _ => rfl) ?_
            refine fe_s 1 (pc' := cond (fx_cb .ne t 0) 207 203) (lc' := [(9, .int ((v102 + (nI k)) - 10)), (8, .int (nI k)), (7, .int (nI j)), (5, .long x), (0, .ref 0), (1, .int (nI C)), (2, .int (nI days)), (3, .int f), (4, .int t)]) (stk' := [.long (b123 18 (k - 1)), .int (nI (k - 1)), .ref 18]) (mem' := fm g tp bt a b123) (fun _ _ _ => rfl) ?_
            cases h128 : fx_cb .ne t 0
            · refine fe_s 3 (pc' := 219) (lc' := [(9, .int ((v102 + (nI k)) - 10)), (8, .int (nI k)), (7, .int (nI j)), (5, .long x), (0, .ref 0), (1, .int (nI C)), (2, .int (nI days)), (3, .int f), (4, .int t)]) (stk' := [.long ((b123 18 (k - 1)) + (0 : Int64)), .int (nI (k - 1)), .ref 18]) (mem' := fm g tp bt a b123) (fun _ _ _ => rfl) ?_
              refine fe_stL (mem' := fm g tp bt a (fm_uL b123 18 (nI (k - 1) : Int32).toNatClampNeg ((b123 18 (k - 1)) + (0 : Int64)))) (by rfl) (by rfl) (fx_inN (i := k - 1) (by omega) (by omega)) fm_sl18 ?_
              rw [show Int32.toNatClampNeg (nI (k - 1)) = k - 1 from nI_clamp (by omega)]
              obtain ⟨b129, hb129⟩ : ∃ z, z = fm_uL b123 18 (k - 1) ((b123 18 (k - 1)) + (0 : Int64)) := ⟨_, rfl⟩
              rw [← hb129]
              refine fe_s 1 (pc' := 223) (lc' := [(8, .int ((nI k) + 1)), (9, .int ((v102 + (nI k)) - 10)), (7, .int (nI j)), (5, .long x), (0, .ref 0), (1, .int (nI C)), (2, .int (nI days)), (3, .int f), (4, .int t)]) (stk' := []) (mem' := fm g tp bt a b129) (fun _ _ _ => rfl) ?_
              rw [show ((nI k) + 1 : Int32) = nI (k + 1) from by simp only [show (1 : Int32) = nI 1 from rfl, nI_add, fm_mul]]
              refine fe_s 1 (pc' := fx_to 223 (-149)) (lc' := [(8, .int (nI (k + 1))), (9, .int ((v102 + (nI k)) - 10)), (7, .int (nI j)), (5, .long x), (0, .ref 0), (1, .int (nI C)), (2, .int (nI days)), (3, .int f), (4, .int t)]) (stk' := []) (mem' := fm g tp bt a b129) (fun _ _ _ => rfl) ?_
              rw [show fx_to 223 (-149) = 74 from by decide]
              refine fe_w (lc' := [(8, .int (nI (k + 1))), (7, .int (nI j)), (5, .long x), (0, .ref 0), (1, .int (nI C)), (2, .int (nI days)), (3, .int f), (4, .int t)]) ⟨rfl, rfl, rfl, rfl, rfl, rfl, rfl, rfl, trivial⟩ (by show List.Nodup [8, 7, 5, 0, 1, 2, 3, 4]; decide) (by show List.Nodup [8, 9, 7, 5, 0, 1, 2, 3, 4]; decide) ?_
              have wb103 := fm_W_8 h1 hb103
              have zb103 := fm_W8_u h2 (by omega) hb103
              have wb123 := fm_W_8 wb103 hb123
              have zb123 := fm_W8_u zb103 (by omega) hb123
              have wb129 := fm_W_8 wb123 hb129
              have zb129 := fm_W8_u zb123 (by omega) hb129
              exact ih2 (k + 1) (by omega) _ wb129 zb129
            · refine fe_s 3 (pc' := 213) (lc' := [(9, .int ((v102 + (nI k)) - 10)), (8, .int (nI k)), (7, .int (nI j)), (5, .long x), (0, .ref 0), (1, .int (nI C)), (2, .int (nI days)), (3, .int f), (4, .int t)]) (stk' := [.int (nI k), .ref 17, .long (b123 18 (k - 1)), .int (nI (k - 1)), .ref 18]) (mem' := fm g tp bt a b123) (fun _ _ _ => rfl) ?_
              refine fe_ldL (by rfl) (by rfl) (fx_inN (i := k) (by omega) (by omega)) ?_
              rw [show Int32.toNatClampNeg (nI k) = k from nI_clamp (by omega)]
              refine fe_s 4 (pc' := 219) (lc' := [(9, .int ((v102 + (nI k)) - 10)), (8, .int (nI k)), (7, .int (nI j)), (5, .long x), (0, .ref 0), (1, .int (nI C)), (2, .int (nI days)), (3, .int f), (4, .int t)]) (stk' := [.long ((b123 18 (k - 1)) + ((b123 17 k) * (t.toInt64))), .int (nI (k - 1)), .ref 18]) (mem' := fm g tp bt a b123) (fun _ _ _ => rfl) ?_
              refine fe_stL (mem' := fm g tp bt a (fm_uL b123 18 (nI (k - 1) : Int32).toNatClampNeg ((b123 18 (k - 1)) + ((b123 17 k) * (t.toInt64))))) (by rfl) (by rfl) (fx_inN (i := k - 1) (by omega) (by omega)) fm_sl18 ?_
              rw [show Int32.toNatClampNeg (nI (k - 1)) = k - 1 from nI_clamp (by omega)]
              obtain ⟨b130, hb130⟩ : ∃ z, z = fm_uL b123 18 (k - 1) ((b123 18 (k - 1)) + ((b123 17 k) * (t.toInt64))) := ⟨_, rfl⟩
              rw [← hb130]
              refine fe_s 1 (pc' := 223) (lc' := [(8, .int ((nI k) + 1)), (9, .int ((v102 + (nI k)) - 10)), (7, .int (nI j)), (5, .long x), (0, .ref 0), (1, .int (nI C)), (2, .int (nI days)), (3, .int f), (4, .int t)]) (stk' := []) (mem' := fm g tp bt a b130) (fun _ _ _ => rfl) ?_
              rw [show ((nI k) + 1 : Int32) = nI (k + 1) from by simp only [show (1 : Int32) = nI 1 from rfl, nI_add, fm_mul]]
              refine fe_s 1 (pc' := fx_to 223 (-149)) (lc' := [(8, .int (nI (k + 1))), (9, .int ((v102 + (nI k)) - 10)), (7, .int (nI j)), (5, .long x), (0, .ref 0), (1, .int (nI C)), (2, .int (nI days)), (3, .int f), (4, .int t)]) (stk' := []) (mem' := fm g tp bt a b130) (fun _ _ _ => rfl) ?_
              rw [show fx_to 223 (-149) = 74 from by decide]
              refine fe_w (lc' := [(8, .int (nI (k + 1))), (7, .int (nI j)), (5, .long x), (0, .ref 0), (1, .int (nI C)), (2, .int (nI days)), (3, .int f), (4, .int t)]) ⟨rfl, rfl, rfl, rfl, rfl, rfl, rfl, rfl, trivial⟩ (by show List.Nodup [8, 7, 5, 0, 1, 2, 3, 4]; decide) (by show List.Nodup [8, 9, 7, 5, 0, 1, 2, 3, 4]; decide) ?_
              have wb103 := fm_W_8 h1 hb103
              have zb103 := fm_W8_u h2 (by omega) hb103
              have wb123 := fm_W_8 wb103 hb123
              have zb123 := fm_W8_u zb103 (by omega) hb123
              have wb130 := fm_W_8 wb123 hb130
              have zb130 := fm_W8_u zb123 (by omega) hb130
              exact ih2 (k + 1) (by omega) _ wb130 zb130
        · refine fe_s 3 (pc' := 172) (lc' := [(9, .int ((v102 + (nI k)) - 10)), (8, .int (nI k)), (7, .int (nI j)), (5, .long x), (0, .ref 0), (1, .int (nI C)), (2, .int (nI days)), (3, .int f), (4, .int t)]) (stk' := [.int (nI k), .ref 17, .long (b103 18 (k + 1)), .int (nI (k + 1)), .ref 18]) (mem' := fm g tp bt a b103) (fun _ _ _ => rfl) ?_
          refine fe_ldL (by rfl) (by rfl) (fx_inN (i := k) (by omega) (by omega)) ?_
          rw [show Int32.toNatClampNeg (nI k) = k from nI_clamp (by omega)]
          refine fe_s 4 (pc' := 177) (lc' := [(9, .int ((v102 + (nI k)) - 10)), (8, .int (nI k)), (7, .int (nI j)), (5, .long x), (0, .ref 0), (1, .int (nI C)), (2, .int (nI days)), (3, .int f), (4, .int t)]) (stk' := [.long ((b103 18 (k + 1)) + ((b103 17 k) * (f.toInt64))), .int (nI (k + 1)), .ref 18]) (mem' := fm g tp bt a b103) (fun _ _ _ => rfl) ?_
          refine fe_stL (mem' := fm g tp bt a (fm_uL b103 18 (nI (k + 1) : Int32).toNatClampNeg ((b103 18 (k + 1)) + ((b103 17 k) * (f.toInt64))))) (by rfl) (by rfl) (fx_inN (i := k + 1) (by omega) (by omega)) fm_sl18 ?_
          rw [show Int32.toNatClampNeg (nI (k + 1)) = k + 1 from nI_clamp (by omega)]
          obtain ⟨b131, hb131⟩ : ∃ z, z = fm_uL b103 18 (k + 1) ((b103 18 (k + 1)) + ((b103 17 k) * (f.toInt64))) := ⟨_, rfl⟩
          rw [← hb131]
          refine fe_s 3 (pc' := 184) (lc' := [(9, .int ((v102 + (nI k)) - 10)), (8, .int (nI k)), (7, .int (nI j)), (5, .long x), (0, .ref 0), (1, .int (nI C)), (2, .int (nI days)), (3, .int f), (4, .int t)]) (stk' := [.int ((v102 + (nI k)) - 10), .ref 18]) (mem' := fm g tp bt a b131) (fun _ _ _ => rfl) ?_
          refine fe_s 1 (pc' := cond (fx_cb .ne ((v102 + (nI k)) - 10) 0) 192 187) (lc' := [(9, .int ((v102 + (nI k)) - 10)), (8, .int (nI k)), (7, .int (nI j)), (5, .long x), (0, .ref 0), (1, .int (nI C)), (2, .int (nI days)), (3, .int f), (4, .int t)]) (stk' := [.ref 18]) (mem' := fm g tp bt a b131) (fun _ _ _ => rfl) ?_
          cases h132 : fx_cb .ne ((v102 + (nI k)) - 10) 0
          · refine fe_s 3 (pc' := 197) (lc' := [(9, .int ((v102 + (nI k)) - 10)), (8, .int (nI k)), (7, .int (nI j)), (5, .long x), (0, .ref 0), (1, .int (nI C)), (2, .int (nI days)), (3, .int f), (4, .int t)]) (stk' := [.int (nI k), .ref 18, .int (nI k), .ref 18]) (mem' := fm g tp bt a b131) (fun _ _ _ => rfl) ?_
            refine fe_ldL (by rfl) (by rfl) (fx_inN (i := k) (by omega) (by omega)) ?_
            rw [show Int32.toNatClampNeg (nI k) = k from nI_clamp (by omega)]
            refine fe_s 1 (pc' := 200) (lc' := [(9, .int ((v102 + (nI k)) - 10)), (8, .int (nI k)), (7, .int (nI j)), (5, .long x), (0, .ref 0), (1, .int (nI C)), (2, .int (nI days)), (3, .int f), (4, .int t)]) (stk' := [.int t, .long (b131 18 k), .int (nI k), .ref 18]) (mem' := fm g tp bt a b131) (fun _ _ _ => rfl) ?_
            refine fe_s 1 (pc' := cond (fx_cb .ne t 0) 207 203) (lc' := [(9, .int ((v102 + (nI k)) - 10)), (8, .int (nI k)), (7, .int (nI j)), (5, .long x), (0, .ref 0), (1, .int (nI C)), (2, .int (nI days)), (3, .int f), (4, .int t)]) (stk' := [.long (b131 18 k), .int (nI k), .ref 18]) (mem' := fm g tp bt a b131) (fun _ _ _ => rfl) ?_
            cases h133 : fx_cb .ne t 0
            · refine fe_s 3 (pc' := 219) (lc' := [(9, .int ((v102 + (nI k)) - 10)), (8, .int (nI k)), (7, .int (nI j)), (5, .long x), (0, .ref 0), (1, .int (nI C)), (2, .int (nI days)), (3, .int f), (4, .int t)]) (stk' := [.long ((b131 18 k) + (0 : Int64)), .int (nI k), .ref 18]) (mem' := fm g tp bt a b131) (fun _ _ _ => rfl) ?_
              refine fe_stL (mem' := fm g tp bt a (fm_uL b131 18 (nI k : Int32).toNatClampNeg ((b131 18 k) + (0 : Int64)))) (by rfl) (by rfl) (fx_inN (i := k) (by omega) (by omega)) fm_sl18 ?_
              rw [show Int32.toNatClampNeg (nI k) = k from nI_clamp (by omega)]
              obtain ⟨b134, hb134⟩ : ∃ z, z = fm_uL b131 18 (k) ((b131 18 k) + (0 : Int64)) := ⟨_, rfl⟩
              rw [← hb134]
              refine fe_s 1 (pc' := 223) (lc' := [(8, .int ((nI k) + 1)), (9, .int ((v102 + (nI k)) - 10)), (7, .int (nI j)), (5, .long x), (0, .ref 0), (1, .int (nI C)), (2, .int (nI days)), (3, .int f), (4, .int t)]) (stk' := []) (mem' := fm g tp bt a b134) (fun _ _ _ => rfl) ?_
              rw [show ((nI k) + 1 : Int32) = nI (k + 1) from by simp only [show (1 : Int32) = nI 1 from rfl, nI_add, fm_mul]]
              refine fe_s 1 (pc' := fx_to 223 (-149)) (lc' := [(8, .int (nI (k + 1))), (9, .int ((v102 + (nI k)) - 10)), (7, .int (nI j)), (5, .long x), (0, .ref 0), (1, .int (nI C)), (2, .int (nI days)), (3, .int f), (4, .int t)]) (stk' := []) (mem' := fm g tp bt a b134) (fun _ _ _ => rfl) ?_
              rw [show fx_to 223 (-149) = 74 from by decide]
              refine fe_w (lc' := [(8, .int (nI (k + 1))), (7, .int (nI j)), (5, .long x), (0, .ref 0), (1, .int (nI C)), (2, .int (nI days)), (3, .int f), (4, .int t)]) ⟨rfl, rfl, rfl, rfl, rfl, rfl, rfl, rfl, trivial⟩ (by show List.Nodup [8, 7, 5, 0, 1, 2, 3, 4]; decide) (by show List.Nodup [8, 9, 7, 5, 0, 1, 2, 3, 4]; decide) ?_
              have wb103 := fm_W_8 h1 hb103
              have zb103 := fm_W8_u h2 (by omega) hb103
              have wb131 := fm_W_8 wb103 hb131
              have zb131 := fm_W8_u zb103 (by omega) hb131
              have wb134 := fm_W_8 wb131 hb134
              have zb134 := fm_W8_u zb131 (by omega) hb134
              exact ih2 (k + 1) (by omega) _ wb134 zb134
            · refine fe_s 3 (pc' := 213) (lc' := [(9, .int ((v102 + (nI k)) - 10)), (8, .int (nI k)), (7, .int (nI j)), (5, .long x), (0, .ref 0), (1, .int (nI C)), (2, .int (nI days)), (3, .int f), (4, .int t)]) (stk' := [.int (nI k), .ref 17, .long (b131 18 k), .int (nI k), .ref 18]) (mem' := fm g tp bt a b131) (fun _ _ _ => rfl) ?_
              refine fe_ldL (by rfl) (by rfl) (fx_inN (i := k) (by omega) (by omega)) ?_
              rw [show Int32.toNatClampNeg (nI k) = k from nI_clamp (by omega)]
              refine fe_s 4 (pc' := 219) (lc' := [(9, .int ((v102 + (nI k)) - 10)), (8, .int (nI k)), (7, .int (nI j)), (5, .long x), (0, .ref 0), (1, .int (nI C)), (2, .int (nI days)), (3, .int f), (4, .int t)]) (stk' := [.long ((b131 18 k) + ((b131 17 k) * (t.toInt64))), .int (nI k), .ref 18]) (mem' := fm g tp bt a b131) (fun _ _ _ => rfl) ?_
              refine fe_stL (mem' := fm g tp bt a (fm_uL b131 18 (nI k : Int32).toNatClampNeg ((b131 18 k) + ((b131 17 k) * (t.toInt64))))) (by rfl) (by rfl) (fx_inN (i := k) (by omega) (by omega)) fm_sl18 ?_
              rw [show Int32.toNatClampNeg (nI k) = k from nI_clamp (by omega)]
              obtain ⟨b135, hb135⟩ : ∃ z, z = fm_uL b131 18 (k) ((b131 18 k) + ((b131 17 k) * (t.toInt64))) := ⟨_, rfl⟩
              rw [← hb135]
              refine fe_s 1 (pc' := 223) (lc' := [(8, .int ((nI k) + 1)), (9, .int ((v102 + (nI k)) - 10)), (7, .int (nI j)), (5, .long x), (0, .ref 0), (1, .int (nI C)), (2, .int (nI days)), (3, .int f), (4, .int t)]) (stk' := []) (mem' := fm g tp bt a b135) (fun _ _ _ => rfl) ?_
              rw [show ((nI k) + 1 : Int32) = nI (k + 1) from by simp only [show (1 : Int32) = nI 1 from rfl, nI_add, fm_mul]]
              refine fe_s 1 (pc' := fx_to 223 (-149)) (lc' := [(8, .int (nI (k + 1))), (9, .int ((v102 + (nI k)) - 10)), (7, .int (nI j)), (5, .long x), (0, .ref 0), (1, .int (nI C)), (2, .int (nI days)), (3, .int f), (4, .int t)]) (stk' := []) (mem' := fm g tp bt a b135) (fun _ _ _ => rfl) ?_
              rw [show fx_to 223 (-149) = 74 from by decide]
              refine fe_w (lc' := [(8, .int (nI (k + 1))), (7, .int (nI j)), (5, .long x), (0, .ref 0), (1, .int (nI C)), (2, .int (nI days)), (3, .int f), (4, .int t)]) ⟨rfl, rfl, rfl, rfl, rfl, rfl, rfl, rfl, trivial⟩ (by show List.Nodup [8, 7, 5, 0, 1, 2, 3, 4]; decide) (by show List.Nodup [8, 9, 7, 5, 0, 1, 2, 3, 4]; decide) ?_
              have wb103 := fm_W_8 h1 hb103
              have zb103 := fm_W8_u h2 (by omega) hb103
              have wb131 := fm_W_8 wb103 hb131
              have zb131 := fm_W8_u zb103 (by omega) hb131
              have wb135 := fm_W_8 wb131 hb135
              have zb135 := fm_W8_u zb131 (by omega) hb135
              exact ih2 (k + 1) (by omega) _ wb135 zb135
          · refine fe_s 4 (pc' := 197) (lc' := [(9, .int ((v102 + (nI k)) - 10)), (8, .int (nI k)), (7, .int (nI j)), (5, .long x), (0, .ref 0), (1, .int (nI C)), (2, .int (nI days)), (3, .int f), (4, .int t)]) (stk' := [.int ((nI k) - 1), .ref 18, .int ((nI k) - 1), .ref 18]) (mem' := fm g tp bt a b131) (fun _ _ _ => rfl) ?_
            rw [show ((nI k) - 1 : Int32) = nI (k - 1) from by simp only [show (1 : Int32) = nI 1 from rfl, tg_sub2 (x := k) (y := 1) (by omega), nI_add, fm_mul]]
            refine fe_ldL (by rfl) (by rfl) (fx_inN (i := k - 1) (by omega) (by omega)) ?_
            rw [show Int32.toNatClampNeg (nI (k - 1)) = k - 1 from nI_clamp (by omega)]
            refine fe_s 1 (pc' := 200) (lc' := [(9, .int ((v102 + (nI k)) - 10)), (8, .int (nI k)), (7, .int (nI j)), (5, .long x), (0, .ref 0), (1, .int (nI C)), (2, .int (nI days)), (3, .int f), (4, .int t)]) (stk' := [.int t, .long (b131 18 (k - 1)), .int (nI (k - 1)), .ref 18]) (mem' := fm g tp bt a b131) (fun _ _ _ => rfl) ?_
            refine fe_s 1 (pc' := cond (fx_cb .ne t 0) 207 203) (lc' := [(9, .int ((v102 + (nI k)) - 10)), (8, .int (nI k)), (7, .int (nI j)), (5, .long x), (0, .ref 0), (1, .int (nI C)), (2, .int (nI days)), (3, .int f), (4, .int t)]) (stk' := [.long (b131 18 (k - 1)), .int (nI (k - 1)), .ref 18]) (mem' := fm g tp bt a b131) (fun _ _ _ => rfl) ?_
            cases h136 : fx_cb .ne t 0
            · refine fe_s 3 (pc' := 219) (lc' := [(9, .int ((v102 + (nI k)) - 10)), (8, .int (nI k)), (7, .int (nI j)), (5, .long x), (0, .ref 0), (1, .int (nI C)), (2, .int (nI days)), (3, .int f), (4, .int t)]) (stk' := [.long ((b131 18 (k - 1)) + (0 : Int64)), .int (nI (k - 1)), .ref 18]) (mem' := fm g tp bt a b131) (fun _ _ _ => rfl) ?_
              refine fe_stL (mem' := fm g tp bt a (fm_uL b131 18 (nI (k - 1) : Int32).toNatClampNeg ((b131 18 (k - 1)) + (0 : Int64)))) (by rfl) (by rfl) (fx_inN (i := k - 1) (by omega) (by omega)) fm_sl18 ?_
              rw [show Int32.toNatClampNeg (nI (k - 1)) = k - 1 from nI_clamp (by omega)]
              obtain ⟨b137, hb137⟩ : ∃ z, z = fm_uL b131 18 (k - 1) ((b131 18 (k - 1)) + (0 : Int64)) := ⟨_, rfl⟩
              rw [← hb137]
              refine fe_s 1 (pc' := 223) (lc' := [(8, .int ((nI k) + 1)), (9, .int ((v102 + (nI k)) - 10)), (7, .int (nI j)), (5, .long x), (0, .ref 0), (1, .int (nI C)), (2, .int (nI days)), (3, .int f), (4, .int t)]) (stk' := []) (mem' := fm g tp bt a b137) (fun _ _ _ => rfl) ?_
              rw [show ((nI k) + 1 : Int32) = nI (k + 1) from by simp only [show (1 : Int32) = nI 1 from rfl, nI_add, fm_mul]]
              refine fe_s 1 (pc' := fx_to 223 (-149)) (lc' := [(8, .int (nI (k + 1))), (9, .int ((v102 + (nI k)) - 10)), (7, .int (nI j)), (5, .long x), (0, .ref 0), (1, .int (nI C)), (2, .int (nI days)), (3, .int f), (4, .int t)]) (stk' := []) (mem' := fm g tp bt a b137) (fun _ _ _ => rfl) ?_
              rw [show fx_to 223 (-149) = 74 from by decide]
              refine fe_w (lc' := [(8, .int (nI (k + 1))), (7, .int (nI j)), (5, .long x), (0, .ref 0), (1, .int (nI C)), (2, .int (nI days)), (3, .int f), (4, .int t)]) ⟨rfl, rfl, rfl, rfl, rfl, rfl, rfl, rfl, trivial⟩ (by show List.Nodup [8, 7, 5, 0, 1, 2, 3, 4]; decide) (by show List.Nodup [8, 9, 7, 5, 0, 1, 2, 3, 4]; decide) ?_
              have wb103 := fm_W_8 h1 hb103
              have zb103 := fm_W8_u h2 (by omega) hb103
              have wb131 := fm_W_8 wb103 hb131
              have zb131 := fm_W8_u zb103 (by omega) hb131
              have wb137 := fm_W_8 wb131 hb137
              have zb137 := fm_W8_u zb131 (by omega) hb137
              exact ih2 (k + 1) (by omega) _ wb137 zb137
            · refine fe_s 3 (pc' := 213) (lc' := [(9, .int ((v102 + (nI k)) - 10)), (8, .int (nI k)), (7, .int (nI j)), (5, .long x), (0, .ref 0), (1, .int (nI C)), (2, .int (nI days)), (3, .int f), (4, .int t)]) (stk' := [.int (nI k), .ref 17, .long (b131 18 (k - 1)), .int (nI (k - 1)), .ref 18]) (mem' := fm g tp bt a b131) (fun _ _ _ => rfl) ?_
              refine fe_ldL (by rfl) (by rfl) (fx_inN (i := k) (by omega) (by omega)) ?_
              rw [show Int32.toNatClampNeg (nI k) = k from nI_clamp (by omega)]
              refine fe_s 4 (pc' := 219) (lc' := [(9, .int ((v102 + (nI k)) - 10)), (8, .int (nI k)), (7, .int (nI j)), (5, .long x), (0, .ref 0), (1, .int (nI C)), (2, .int (nI days)), (3, .int f), (4, .int t)]) (stk' := [.long ((b131 18 (k - 1)) + ((b131 17 k) * (t.toInt64))), .int (nI (k - 1)), .ref 18]) (mem' := fm g tp bt a b131) (fun _ _ _ => rfl) ?_
              refine fe_stL (mem' := fm g tp bt a (fm_uL b131 18 (nI (k - 1) : Int32).toNatClampNeg ((b131 18 (k - 1)) + ((b131 17 k) * (t.toInt64))))) (by rfl) (by rfl) (fx_inN (i := k - 1) (by omega) (by omega)) fm_sl18 ?_
              rw [show Int32.toNatClampNeg (nI (k - 1)) = k - 1 from nI_clamp (by omega)]
              obtain ⟨b138, hb138⟩ : ∃ z, z = fm_uL b131 18 (k - 1) ((b131 18 (k - 1)) + ((b131 17 k) * (t.toInt64))) := ⟨_, rfl⟩
              rw [← hb138]
              refine fe_s 1 (pc' := 223) (lc' := [(8, .int ((nI k) + 1)), (9, .int ((v102 + (nI k)) - 10)), (7, .int (nI j)), (5, .long x), (0, .ref 0), (1, .int (nI C)), (2, .int (nI days)), (3, .int f), (4, .int t)]) (stk' := []) (mem' := fm g tp bt a b138) (fun _ _ _ => rfl) ?_
              rw [show ((nI k) + 1 : Int32) = nI (k + 1) from by simp only [show (1 : Int32) = nI 1 from rfl, nI_add, fm_mul]]
              refine fe_s 1 (pc' := fx_to 223 (-149)) (lc' := [(8, .int (nI (k + 1))), (9, .int ((v102 + (nI k)) - 10)), (7, .int (nI j)), (5, .long x), (0, .ref 0), (1, .int (nI C)), (2, .int (nI days)), (3, .int f), (4, .int t)]) (stk' := []) (mem' := fm g tp bt a b138) (fun _ _ _ => rfl) ?_
              rw [show fx_to 223 (-149) = 74 from by decide]
              refine fe_w (lc' := [(8, .int (nI (k + 1))), (7, .int (nI j)), (5, .long x), (0, .ref 0), (1, .int (nI C)), (2, .int (nI days)), (3, .int f), (4, .int t)]) ⟨rfl, rfl, rfl, rfl, rfl, rfl, rfl, rfl, trivial⟩ (by show List.Nodup [8, 7, 5, 0, 1, 2, 3, 4]; decide) (by show List.Nodup [8, 9, 7, 5, 0, 1, 2, 3, 4]; decide) ?_
              have wb103 := fm_W_8 h1 hb103
              have zb103 := fm_W8_u h2 (by omega) hb103
              have wb131 := fm_W_8 wb103 hb131
              have zb131 := fm_W8_u zb103 (by omega) hb131
              have wb138 := fm_W_8 wb131 hb138
              have zb138 := fm_W8_u zb131 (by omega) hb138
              exact ih2 (k + 1) (by omega) _ wb138 zb138
theorem ld_50 {b0 : Nat → Nat → Int64} {C days : Nat} {f t : Int32} (hC : C < 10) (hdays : days ≤ 10) {j : Nat} {x : Int64} (hj : j < days) (hx : x = Int64.ofNat (16 ^ j)) (ih : ∀ (b2 : Nat → Nat → Int64), fm_W b0 b2 (j + 1) → fe_R 2 gk_m352 41 [(7, .int (nI (j + 1))), (5, .long (Int64.ofNat (16 ^ (j + 1)))), (0, .ref 0), (1, .int (nI C)), (2, .int (nI days)), (3, .int f), (4, .int t)] [] (fm g tp bt a b2) (fun R => ∃ (x : Int64) (b' : Nat → Nat → Int64), x = Int64.ofNat (16 ^ days) ∧ (∀ t, t ≠ 17 → t ≠ 18 → b' t = b0 t) ∧ R = (some (.long x), fm g tp bt a b'))) : ∀ (r k : Nat), k + r = 21 → ∀ (b : Nat → Nat → Int64), fm_W b0 b j → (∀ i, i < k → b 18 i = 0) → fe_R 2 gk_m352 50 [(8, .int (nI k)), (7, .int (nI j)), (5, .long x), (0, .ref 0), (1, .int (nI C)), (2, .int (nI days)), (3, .int f), (4, .int t)] [] (fm g tp bt a b) (fun R => ∃ (x : Int64) (b' : Nat → Nat → Int64), x = Int64.ofNat (16 ^ days) ∧ (∀ t, t ≠ 17 → t ≠ 18 → b' t = b0 t) ∧ R = (some (.long x), fm g tp bt a b')) := by
  intro r
  induction r with
  | zero =>
    intro k hk b h1 h2
    obtain rfl : k = 21 := by omega
    refine fe_s 2 (pc' := 54) (lc' := [(8, .int (nI 21)), (7, .int (nI j)), (5, .long x), (0, .ref 0), (1, .int (nI C)), (2, .int (nI days)), (3, .int f), (4, .int t)]) (stk' := [.int 21, .int (nI 21)]) (mem' := fm g tp bt a b) (fun _ _ _ => rfl) ?_
    refine fe_s 1 (pc' := cond (fx_cb .ge (nI 21) 21) 71 57) (lc' := [(8, .int (nI 21)), (7, .int (nI j)), (5, .long x), (0, .ref 0), (1, .int (nI C)), (2, .int (nI days)), (3, .int f), (4, .int t)]) (stk' := []) (mem' := fm g tp bt a b) (fun _ _ _ => rfl) ?_
    rw [show (fx_cb .ge (nI 21) 21) = true from cb_geT (a := 21) (b := 21) (by omega) (by omega) (by omega)]
    dsimp only [cond]
    refine fe_s 2 (pc' := 74) (lc' := [(8, .int 0), (7, .int (nI j)), (5, .long x), (0, .ref 0), (1, .int (nI C)), (2, .int (nI days)), (3, .int f), (4, .int t)]) (stk' := []) (mem' := fm g tp bt a b) (fun _ _ _ => rfl) ?_
    refine fe_w (lc' := [(8, .int (nI 0)), (7, .int (nI j)), (5, .long x), (0, .ref 0), (1, .int (nI C)), (2, .int (nI days)), (3, .int f), (4, .int t)]) ⟨rfl, rfl, rfl, rfl, rfl, rfl, rfl, rfl, trivial⟩ (by show List.Nodup [8, 7, 5, 0, 1, 2, 3, 4]; decide) (by show List.Nodup [8, 7, 5, 0, 1, 2, 3, 4]; decide) ?_
    exact ld_74 hC hdays hj hx ih 21 0 (by omega) b h1 (fun i hi _ => h2 i hi)
  | succ r ih2 =>
    intro k hk b h1 h2
    refine fe_s 2 (pc' := 54) (lc' := [(8, .int (nI k)), (7, .int (nI j)), (5, .long x), (0, .ref 0), (1, .int (nI C)), (2, .int (nI days)), (3, .int f), (4, .int t)]) (stk' := [.int 21, .int (nI k)]) (mem' := fm g tp bt a b) (fun _ _ _ => rfl) ?_
    refine fe_s 1 (pc' := cond (fx_cb .ge (nI k) 21) 71 57) (lc' := [(8, .int (nI k)), (7, .int (nI j)), (5, .long x), (0, .ref 0), (1, .int (nI C)), (2, .int (nI days)), (3, .int f), (4, .int t)]) (stk' := []) (mem' := fm g tp bt a b) (fun _ _ _ => rfl) ?_
    rw [show (fx_cb .ge (nI k) 21) = false from cb_geF (a := k) (b := 21) (by omega) (by omega) (by omega)]
    dsimp only [cond]
    refine fe_s 4 (pc' := 64) (lc' := [(8, .int (nI k)), (7, .int (nI j)), (5, .long x), (0, .ref 0), (1, .int (nI C)), (2, .int (nI days)), (3, .int f), (4, .int t)]) (stk' := [.long (0 : Int64), .int (nI k), .ref 18]) (mem' := fm g tp bt a b) (fun _ _ _ => rfl) ?_
    refine fe_stL (mem' := fm g tp bt a (fm_uL b 18 (nI k : Int32).toNatClampNeg ((0 : Int64)))) (by rfl) (by rfl) (fx_inN (i := k) (by omega) (by omega)) fm_sl18 ?_
    rw [show Int32.toNatClampNeg (nI k) = k from nI_clamp (by omega)]
    obtain ⟨b101, hb101⟩ : ∃ z, z = fm_uL b 18 (k) ((0 : Int64)) := ⟨_, rfl⟩
    rw [← hb101]
    refine fe_s 2 (pc' := 50) (lc' := [(8, .int ((nI k) + 1)), (7, .int (nI j)), (5, .long x), (0, .ref 0), (1, .int (nI C)), (2, .int (nI days)), (3, .int f), (4, .int t)]) (stk' := []) (mem' := fm g tp bt a b101) (fun _ _ _ => rfl) ?_
    rw [show ((nI k) + 1 : Int32) = nI (k + 1) from by simp only [show (1 : Int32) = nI 1 from rfl, nI_add, fm_mul]]
    refine fe_w (lc' := [(8, .int (nI (k + 1))), (7, .int (nI j)), (5, .long x), (0, .ref 0), (1, .int (nI C)), (2, .int (nI days)), (3, .int f), (4, .int t)]) ⟨rfl, rfl, rfl, rfl, rfl, rfl, rfl, rfl, trivial⟩ (by show List.Nodup [8, 7, 5, 0, 1, 2, 3, 4]; decide) (by show List.Nodup [8, 7, 5, 0, 1, 2, 3, 4]; decide) ?_
    refine ih2 (k + 1) (by omega) _ (fm_W_8 h1 hb101) (fun i hi => ?_)
    rw [hb101, fm_uLs]
    split
    · rfl
    · exact h2 i (by omega)
theorem ld_41 {b0 : Nat → Nat → Int64} {C days : Nat} {f t : Int32} (hC : C < 10) (hdays : days ≤ 10) : ∀ (r j : Nat), j + r = days → ∀ (b : Nat → Nat → Int64), fm_W b0 b j → fe_R 2 gk_m352 41 [(7, .int (nI j)), (5, .long (Int64.ofNat (16 ^ j))), (0, .ref 0), (1, .int (nI C)), (2, .int (nI days)), (3, .int f), (4, .int t)] [] (fm g tp bt a b) (fun R => ∃ (x : Int64) (b' : Nat → Nat → Int64), x = Int64.ofNat (16 ^ days) ∧ (∀ t, t ≠ 17 → t ≠ 18 → b' t = b0 t) ∧ R = (some (.long x), fm g tp bt a b')) := by
  intro r
  induction r with
  | zero =>
    intro j hj b h1
    obtain rfl : days = j := by omega
    refine fe_s 2 (pc' := 44) (lc' := [(7, .int (nI days)), (5, .long (Int64.ofNat (16 ^ days))), (0, .ref 0), (1, .int (nI C)), (2, .int (nI days)), (3, .int f), (4, .int t)]) (stk' := [.int (nI days), .int (nI days)]) (mem' := fm g tp bt a b) (fun _ _ _ => rfl) ?_
    refine fe_s 1 (pc' := cond (fx_cb .ge (nI days) (nI days)) 270 47) (lc' := [(7, .int (nI days)), (5, .long (Int64.ofNat (16 ^ days))), (0, .ref 0), (1, .int (nI C)), (2, .int (nI days)), (3, .int f), (4, .int t)]) (stk' := []) (mem' := fm g tp bt a b) (fun _ _ _ => rfl) ?_
    rw [show (fx_cb .ge (nI days) (nI days)) = true from cb_geT (a := days) (b := days) (by omega) (by omega) (by omega)]
    dsimp only [cond]
    refine fe_s 1 (pc' := 272) (lc' := [(7, .int (nI days)), (5, .long (Int64.ofNat (16 ^ days))), (0, .ref 0), (1, .int (nI C)), (2, .int (nI days)), (3, .int f), (4, .int t)]) (stk' := [.long (Int64.ofNat (16 ^ days))]) (mem' := fm g tp bt a b) (fun _ _ _ => rfl) ?_
    exact fe_ret ⟨_, b, rfl, h1.1, rfl⟩ (by rfl) (by rfl) (by rfl)
  | succ r ih2 =>
    intro j hj b h1
    refine fe_s 2 (pc' := 44) (lc' := [(7, .int (nI j)), (5, .long (Int64.ofNat (16 ^ j))), (0, .ref 0), (1, .int (nI C)), (2, .int (nI days)), (3, .int f), (4, .int t)]) (stk' := [.int (nI days), .int (nI j)]) (mem' := fm g tp bt a b) (fun _ _ _ => rfl) ?_
    refine fe_s 1 (pc' := cond (fx_cb .ge (nI j) (nI days)) 270 47) (lc' := [(7, .int (nI j)), (5, .long (Int64.ofNat (16 ^ j))), (0, .ref 0), (1, .int (nI C)), (2, .int (nI days)), (3, .int f), (4, .int t)]) (stk' := []) (mem' := fm g tp bt a b) (fun _ _ _ => rfl) ?_
    rw [show (fx_cb .ge (nI j) (nI days)) = false from cb_geF (a := j) (b := days) (by omega) (by omega) (by omega)]
    dsimp only [cond]
    refine fe_s 2 (pc' := 50) (lc' := [(8, .int 0), (7, .int (nI j)), (5, .long (Int64.ofNat (16 ^ j))), (0, .ref 0), (1, .int (nI C)), (2, .int (nI days)), (3, .int f), (4, .int t)]) (stk' := []) (mem' := fm g tp bt a b) (fun _ _ _ => rfl) ?_
    refine fe_w (lc' := [(8, .int (nI 0)), (7, .int (nI j)), (5, .long (Int64.ofNat (16 ^ j))), (0, .ref 0), (1, .int (nI C)), (2, .int (nI days)), (3, .int f), (4, .int t)]) ⟨rfl, rfl, rfl, rfl, rfl, rfl, rfl, rfl, trivial⟩ (by show List.Nodup [8, 7, 5, 0, 1, 2, 3, 4]; decide) (by show List.Nodup [8, 7, 5, 0, 1, 2, 3, 4]; decide) ?_
    exact ld_50 hC hdays (by omega) rfl (fun b2 h => ih2 (j + 1) (by omega) b2 h) 21 0 (by omega) b h1 (fun i hi => absurd hi (Nat.not_lt_zero i))
theorem fr_laysDays {C days : Nat} {f t : Int32} (hC : C < 10) (hdays : days ≤ 10) : ∃ (v : Option Value) (mem' : fx_M), (fun R => ∃ (x : Int64) (b' : Nat → Nat → Int64), x = Int64.ofNat (16 ^ days) ∧ (∀ t, t ≠ 17 → t ≠ 18 → b' t = b t) ∧ R = (some (.long x), fm g tp bt a b')) (v, mem') ∧ fr_T 3 352 [.ref 0, .int (nI C), .int (nI days), .int f, .int t] (fm g tp bt a b) v mem' := by
  refine fe_meth (F := fun R => ∃ (x : Int64) (b' : Nat → Nat → Int64), x = Int64.ofNat (16 ^ days) ∧ (∀ t, t ≠ 17 → t ≠ 18 → b' t = b t) ∧ R = (some (.long x), fm g tp bt a b')) (M := gk_m352) (by rfl) (by rfl) ?_
  have loop : ∀ (r k : Nat), k + r = 21 → ∀ b2 : Nat → Nat → Int64, (∀ t, t ≠ 17 → b2 t = b t) → (∀ i, i < k → ¬ i = 10 → b2 17 i = 0) → fe_R 2 gk_m352 3 [(5, .int (nI k)), (0, .ref 0), (1, .int (nI C)), (2, .int (nI days)), (3, .int f), (4, .int t)] [] (fm g tp bt a b2) (fun R => ∃ (x : Int64) (b' : Nat → Nat → Int64), x = Int64.ofNat (16 ^ days) ∧ (∀ t, t ≠ 17 → t ≠ 18 → b' t = b t) ∧ R = (some (.long x), fm g tp bt a b')) := by
    intro r
    induction r with
    | zero =>
      intro k hk b2 h1 h2
      obtain rfl : k = 21 := by omega
      refine fe_s 2 (pc' := 7) (lc' := [(5, .int (nI 21)), (0, .ref 0), (1, .int (nI C)), (2, .int (nI days)), (3, .int f), (4, .int t)]) (stk' := [.int 21, .int (nI 21)]) (mem' := fm g tp bt a b2) (fun _ _ _ => rfl) ?_
      refine fe_s 1 (pc' := cond (fx_cb .ge (nI 21) 21) 35 10) (lc' := [(5, .int (nI 21)), (0, .ref 0), (1, .int (nI C)), (2, .int (nI days)), (3, .int f), (4, .int t)]) (stk' := []) (mem' := fm g tp bt a b2) (fun _ _ _ => rfl) ?_
      rw [show (fx_cb .ge (nI 21) 21) = true from cb_geT (a := 21) (b := 21) (by omega) (by omega) (by omega)]
      dsimp only [cond]
      refine fe_s 4 (pc' := 41) (lc' := [(7, .int 0), (5, .long (1 : Int64)), (0, .ref 0), (1, .int (nI C)), (2, .int (nI days)), (3, .int f), (4, .int t)]) (stk' := []) (mem' := fm g tp bt a b2) (fun _ _ _ => rfl) ?_
      refine fe_w (lc' := [(7, .int (nI 0)), (5, .long (Int64.ofNat (16 ^ 0))), (0, .ref 0), (1, .int (nI C)), (2, .int (nI days)), (3, .int f), (4, .int t)]) ⟨rfl, rfl, rfl, rfl, rfl, rfl, rfl, trivial⟩ (by show List.Nodup [7, 5, 0, 1, 2, 3, 4]; decide) (by show List.Nodup [7, 5, 0, 1, 2, 3, 4]; decide) ?_
      exact ld_41 hC hdays days 0 (by omega) b2 ⟨fun t h7 _ => h1 t h7, fun i hi h4 => h2 i hi (by omega)⟩
    | succ r ih2 =>
      intro k hk b2 h1 h2
      refine fe_s 2 (pc' := 7) (lc' := [(5, .int (nI k)), (0, .ref 0), (1, .int (nI C)), (2, .int (nI days)), (3, .int f), (4, .int t)]) (stk' := [.int 21, .int (nI k)]) (mem' := fm g tp bt a b2) (fun _ _ _ => rfl) ?_
      refine fe_s 1 (pc' := cond (fx_cb .ge (nI k) 21) 35 10) (lc' := [(5, .int (nI k)), (0, .ref 0), (1, .int (nI C)), (2, .int (nI days)), (3, .int f), (4, .int t)]) (stk' := []) (mem' := fm g tp bt a b2) (fun _ _ _ => rfl) ?_
      rw [show (fx_cb .ge (nI k) 21) = false from cb_geF (a := k) (b := 21) (by omega) (by omega) (by omega)]
      dsimp only [cond]
      refine fe_s 5 (pc' := 20) (lc' := [(5, .int (nI k)), (0, .ref 0), (1, .int (nI C)), (2, .int (nI days)), (3, .int f), (4, .int t)]) (stk' := [.int 10, .int (nI k), .int (nI k), .ref 17]) (mem' := fm g tp bt a b2) (fun _ _ _ => rfl) ?_
      refine fe_s 1 (pc' := cond (fx_cb .ne (nI k) 10) 27 23) (lc' := [(5, .int (nI k)), (0, .ref 0), (1, .int (nI C)), (2, .int (nI days)), (3, .int f), (4, .int t)]) (stk' := [.int (nI k), .ref 17]) (mem' := fm g tp bt a b2) (fun _ _ _ => rfl) ?_
      by_cases h101 : k = 10
      · rw [show (fx_cb .ne (nI k) 10) = false from cb_neF (a := k) (b := 10) (by omega) (by omega) (by omega)]
        dsimp only [cond]
        refine fe_s 2 (pc' := 28) (lc' := [(5, .int (nI k)), (0, .ref 0), (1, .int (nI C)), (2, .int (nI days)), (3, .int f), (4, .int t)]) (stk' := [.long (1 : Int64), .int (nI k), .ref 17]) (mem' := fm g tp bt a b2) (fun _ _ _ => rfl) ?_
        refine fe_stL (mem' := fm g tp bt a (fm_uL b2 17 (nI k : Int32).toNatClampNeg ((1 : Int64)))) (by rfl) (by rfl) (fx_inN (i := k) (by omega) (by omega)) fm_sl17 ?_
        rw [show Int32.toNatClampNeg (nI k) = k from nI_clamp (by omega)]
        obtain ⟨b102, hb102⟩ : ∃ z, z = fm_uL b2 17 (k) ((1 : Int64)) := ⟨_, rfl⟩
        rw [← hb102]
        refine fe_s 2 (pc' := 3) (lc' := [(5, .int ((nI k) + 1)), (0, .ref 0), (1, .int (nI C)), (2, .int (nI days)), (3, .int f), (4, .int t)]) (stk' := []) (mem' := fm g tp bt a b102) (fun _ _ _ => rfl) ?_
        rw [show ((nI k) + 1 : Int32) = nI (k + 1) from by simp only [show (1 : Int32) = nI 1 from rfl, nI_add, fm_mul]]
        refine fe_w (lc' := [(5, .int (nI (k + 1))), (0, .ref 0), (1, .int (nI C)), (2, .int (nI days)), (3, .int f), (4, .int t)]) ⟨rfl, rfl, rfl, rfl, rfl, rfl, trivial⟩ (by show List.Nodup [5, 0, 1, 2, 3, 4]; decide) (by show List.Nodup [5, 0, 1, 2, 3, 4]; decide) ?_
        refine ih2 (k + 1) (by omega) _ (fun t h7 => by rw [hb102, fm_uLt h7]; exact h1 t h7) (fun i hi hi0 => ?_)
        rw [hb102, fm_uLs]
        split
        · first | rfl | (exfalso; omega)
        · exact h2 i (by omega) hi0
      · rw [show (fx_cb .ne (nI k) 10) = true from cb_neT (a := k) (b := 10) (by omega) (by omega) (by omega)]
        dsimp only [cond]
        refine fe_s 1 (pc' := 28) (lc' := [(5, .int (nI k)), (0, .ref 0), (1, .int (nI C)), (2, .int (nI days)), (3, .int f), (4, .int t)]) (stk' := [.long (0 : Int64), .int (nI k), .ref 17]) (mem' := fm g tp bt a b2) (fun _ _ _ => rfl) ?_
        refine fe_stL (mem' := fm g tp bt a (fm_uL b2 17 (nI k : Int32).toNatClampNeg ((0 : Int64)))) (by rfl) (by rfl) (fx_inN (i := k) (by omega) (by omega)) fm_sl17 ?_
        rw [show Int32.toNatClampNeg (nI k) = k from nI_clamp (by omega)]
        obtain ⟨b103, hb103⟩ : ∃ z, z = fm_uL b2 17 (k) ((0 : Int64)) := ⟨_, rfl⟩
        rw [← hb103]
        refine fe_s 2 (pc' := 3) (lc' := [(5, .int ((nI k) + 1)), (0, .ref 0), (1, .int (nI C)), (2, .int (nI days)), (3, .int f), (4, .int t)]) (stk' := []) (mem' := fm g tp bt a b103) (fun _ _ _ => rfl) ?_
        rw [show ((nI k) + 1 : Int32) = nI (k + 1) from by simp only [show (1 : Int32) = nI 1 from rfl, nI_add, fm_mul]]
        refine fe_w (lc' := [(5, .int (nI (k + 1))), (0, .ref 0), (1, .int (nI C)), (2, .int (nI days)), (3, .int f), (4, .int t)]) ⟨rfl, rfl, rfl, rfl, rfl, rfl, trivial⟩ (by show List.Nodup [5, 0, 1, 2, 3, 4]; decide) (by show List.Nodup [5, 0, 1, 2, 3, 4]; decide) ?_
        refine ih2 (k + 1) (by omega) _ (fun t h7 => by rw [hb103, fm_uLt h7]; exact h1 t h7) (fun i hi hi0 => ?_)
        rw [hb103, fm_uLs]
        split
        · first | rfl | (exfalso; omega)
        · exact h2 i (by omega) hi0
  refine fe_s 2 (pc' := 3) (lc' := [(5, .int 0), (0, .ref 0), (1, .int (nI C)), (2, .int (nI days)), (3, .int f), (4, .int t)]) (stk' := []) (mem' := fm g tp bt a b) (fun _ _ _ => rfl) ?_
  refine fe_w (lc' := [(5, .int (nI 0)), (0, .ref 0), (1, .int (nI C)), (2, .int (nI days)), (3, .int f), (4, .int t)]) ⟨rfl, rfl, rfl, rfl, rfl, rfl, trivial⟩ (by show List.Nodup [5, 0, 1, 2, 3, 4]; decide) (by show List.Nodup [5, 0, 1, 2, 3, 4]; decide) ?_
  exact loop 21 0 (by omega) b (fun _ _ => rfl) (fun i hi => absurd hi (Nat.not_lt_zero i))
end FDY
