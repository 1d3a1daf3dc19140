/-! ===== the class's tokens, exactly ===== -/
/-- a byte as the class holds it -/
def sp_x (x : Int32) (c : Nat) : Prop := c < 128 ∧ x = nI c ∨ 128 ≤ c ∧ c ≤ 255 ∧ x < 0
def ct (f : Nat → Int32) (T : Nat → Nat) (n : Nat) : Prop := n ≤ 900 ∧ ∀ k, k < n → sp_x (f k) (T k)
/-- the words that are no names stand there -/
def cr (f : Nat → Int64) : Prop := ∀ (k : Nat) (w : List Nat), sp_KW[k]? = some w → f k = Int64.ofNat (sp_cd w)
section CBN
variable {x y : Int32}
theorem cb_neg_lt (hx : x < 0) (hy : 0 ≤ y) : fx_cb .lt x y = true := decide_eq_true (Int32.lt_of_lt_of_le hx hy)
theorem cb_neg_le (hx : x < 0) (hy : 0 ≤ y) : fx_cb .le x y = true := decide_eq_true (Int32.le_of_lt (Int32.lt_of_lt_of_le hx hy))
theorem cb_neg_ge (hx : x < 0) (hy : 0 ≤ y) : fx_cb .ge x y = false := decide_eq_false (Int32.not_le.mpr (Int32.lt_of_lt_of_le hx hy))
theorem cb_neg_gt (hx : x < 0) (hy : 0 ≤ y) : fx_cb .gt x y = false := decide_eq_false (Int32.not_lt.mpr (Int32.le_of_lt (Int32.lt_of_lt_of_le hx hy)))
theorem cb_neg_n (hx : x < 0) (hy : 0 ≤ y) : ¬ x = y := fun z => by
  subst z
  exact absurd hx (Int32.not_lt.mpr hy)
theorem cb_neg_eq (hx : x < 0) (hy : 0 ≤ y) : fx_cb .eq x y = false := decide_eq_false (cb_neg_n hx hy)
theorem cb_neg_ne (hx : x < 0) (hy : 0 ≤ y) : fx_cb .ne x y = true := by
  show (!decide (x = y)) = true
  rw [decide_eq_false (cb_neg_n hx hy)]
  rfl
end CBN
/-- the reader at the token behind p -/
def ck (g : Nat → Nat → Int32) (l : Nat → Nat → Int64) (T : Nat → Nat) (n p : Nat) : Prop := g 9 3 = nI n ∧ g 9 4 = nI (sp_s T n p) ∧ g 9 5 = nI (sp_n T n p) ∧ g 9 6 = nI (sp_k T n p) ∧ g 9 7 = sp_cw T n p ∧ (sp_k T n p = 1 → l 9 8 = sp_cn T n p) ∧ (sp_k T n p = 2 → g 9 9 = nI (sp_v T n p)) ∧ (sp_k T n p = 3 → g 9 9 = nI (T (sp_s T n p)))
/-- nothing but the reader's token (and fault) changes -/
def cfr (g : Nat → Nat → Int32) (l : Nat → Nat → Int64) (g' : Nat → Nat → Int32) (l' : Nat → Nat → Int64) : Prop := (∀ j, j ≠ 9 → g' j = g j) ∧ (∀ k, k < 4 → g' 9 k = g 9 k) ∧ ∀ j, j ≠ 9 → l' j = l j
/-- and not the fault -/
def cff (g : Nat → Nat → Int32) (l : Nat → Nat → Int64) (g' : Nat → Nat → Int32) (l' : Nat → Nat → Int64) : Prop := cfr g l g' l' ∧ g' 9 10 = g 9 10 ∧ g' 9 11 = g 9 11
section CKF
variable {g g1 g2 : Nat → Nat → Int32} {l l1 l2 : Nat → Nat → Int64}
theorem cfr_rf : cfr g l g l := ⟨fun _ _ => rfl, fun _ _ => rfl, fun _ _ => rfl⟩
theorem cfr_tr (h : cfr g l g1 l1) (h2 : cfr g1 l1 g2 l2) : cfr g l g2 l2 := ⟨fun j hj => (h2.1 j hj).trans (h.1 j hj), fun j hj => (h2.2.1 j hj).trans (h.2.1 j hj), fun j hj => (h2.2.2 j hj).trans (h.2.2 j hj)⟩
theorem cff_rf : cff g l g l := ⟨cfr_rf, rfl, rfl⟩
theorem cff_tr (h : cff g l g1 l1) (h2 : cff g1 l1 g2 l2) : cff g l g2 l2 := ⟨cfr_tr h.1 h2.1, h2.2.1.trans h.2.1, h2.2.2.trans h.2.2⟩
theorem fm_un {j j2 k : Nat} {x : Int32} (h : j2 ≠ j) : (fm_u g j k x) j2 = g j2 := if_neg h
theorem fm_uo {j k k2 : Nat} {x : Int32} (h : k2 ≠ k) : (fm_u g j k x) j k2 = g j k2 := by
  unfold fm_u
  rw [if_pos rfl, pk_un h]
theorem fm_ue {j k : Nat} {x : Int32} : (fm_u g j k x) j k = x := by
  unfold fm_u
  rw [if_pos rfl, pk_us]
theorem cfr_u (h : cfr g l g1 l1) {k : Nat} {x : Int32} (hk : 4 ≤ k) : cfr g l (fm_u g1 9 k x) l1 := ⟨fun j hj => (fm_un hj).trans (h.1 j hj), fun j hj => (fm_uo (by omega)).trans (h.2.1 j hj), h.2.2⟩
theorem cff_u (h : cff g l g1 l1) {k : Nat} {x : Int32} (hk : 4 ≤ k) (hk2 : k ≤ 9) : cff g l (fm_u g1 9 k x) l1 := ⟨cfr_u h.1 hk, (fm_uo (by omega)).trans h.2.1, (fm_uo (by omega)).trans h.2.2⟩
theorem fm_ul_n {l : Nat → Nat → Int64} {j k j2 : Nat} {v : Int64} (h : j2 ≠ j) : (fm_ul l j k v) j2 = l j2 := if_neg h
theorem cff_ul (h : cff g l g1 l1) {k : Nat} {v : Int64} : cff g l g1 (fm_ul l1 9 k v) := ⟨⟨h.1.1, h.1.2.1, fun j hj => (fm_ul_n hj).trans (h.1.2.2 j hj)⟩, h.2⟩
end CKF
theorem sp_nI64 {m : Nat} (h : m < 2147483648) : (nI m).toInt64 = Int64.ofNat m := by
  apply Int64.toInt_inj.mp
  rw [Int32.toInt_toInt64, nI_i32 h, Int64.toInt_ofNat_of_lt (Nat.lt_trans h (by decide))]
theorem sp_cdstep {v c : Nat} (h1 : 97 ≤ c) (h2 : c ≤ 122) : Int64.ofNat v * 32 + (nI c - 97 + 1).toInt64 = Int64.ofNat (v * 32 + (c - 96)) := by
  rw [show (97 : Int32) = nI 97 from rfl, tg_sub2 (x := c) (y := 97) (by omega), show (1 : Int32) = nI 1 from rfl, nI_add, sp_nI64 (by omega), show c - 97 + 1 = c - 96 by omega, Int64.ofNat_add, Int64.ofNat_mul]
  rfl
section CTK
variable {g : Nat → Nat → Int32} {l : Nat → Nat → Int64} {a : Nat → Nat → Int32} {b : Nat → Nat → Int64} {R : fx_M} {T : Nat → Nat} {n p : Nat}
theorem ha_signAt {k : Nat} (h3 : g 9 3 = nI n) (hn : n ≤ 900) (hk : k < 2147483648) : hr_T 1 103 [.ref 9, .int (nI k)] (cm g l a b R) (some (.int (if k < n then a 10 k else -1))) (cm g l a b R) := by
  suffices h : ∃ (v : Option Value) (mem' : fx_M), (fun R1 => R1 = (some (.int (if k < n then a 10 k else -1)), cm g l a b R)) (v, mem') ∧ hr_T 1 103 [.ref 9, .int (nI k)] (cm g l a b R) v mem' by
    obtain ⟨v, mem', h1, h2⟩ := h
    cases h1
    exact h2
  refine he_meth (F := fun R1 => R1 = (some (.int (if k < n then a 10 k else -1)), cm g l a b R)) (M := gk_m103) (by rfl) (by rfl) ?_
  refine he_s 1 (pc' := 1) (lc' := [(0, .ref 9), (1, .int (nI k))]) (stk' := [.int (nI k)]) (mem' := cm g l a b R) (by intro _ _ _; eq_refl) ?_
  refine he_s 1 (pc' := cond (fx_cb .lt (nI k) 0) 28 4) (lc' := [(0, .ref 9), (1, .int (nI k))]) (stk' := []) (mem' := cm g l a b R) (by intro _ _ _; eq_refl) ?_
  rw [show (fx_cb .lt (nI k) 0) = false from cb_ltF (a := k) (b := 0) (by omega) (by omega) (by omega)]
  dsimp only [cond]
  refine he_s 3 (pc' := 9) (lc' := [(0, .ref 9), (1, .int (nI k))]) (stk' := [.int (g 9 3), .int (nI k)]) (mem' := cm g l a b R) (by intro _ _ _; eq_refl) ?_
  try rw [h3]
  refine he_s 1 (pc' := cond (fx_cb .ge (nI k) (nI n)) 28 12) (lc' := [(0, .ref 9), (1, .int (nI k))]) (stk' := []) (mem' := cm g l a b R) (by intro _ _ _; eq_refl) ?_
  by_cases y1 : n ≤ k
  · rw [show (fx_cb .ge (nI k) (nI n)) = true from cb_geT (a := k) (b := n) (by omega) (by omega) (by omega)]
    dsimp only [cond]
    refine he_s 1 (pc' := 29) (lc' := [(0, .ref 9), (1, .int (nI k))]) (stk' := [.int (-1)]) (mem' := cm g l a b R) (by intro _ _ _; eq_refl) ?_
    exact he_ret (by rw [if_neg (by omega)]) (by rfl) (by rfl) (by rfl)
  · rw [show (fx_cb .ge (nI k) (nI n)) = false from cb_geF (a := k) (b := n) (by omega) (by omega) (by omega)]
    dsimp only [cond]
    refine he_s 2 (pc' := 16) (lc' := [(0, .ref 9), (1, .int (nI k))]) (stk' := [.int 900, .int (nI k)]) (mem' := cm g l a b R) (by intro _ _ _; eq_refl) ?_
    refine he_s 1 (pc' := cond (fx_cb .ge (nI k) 900) 28 19) (lc' := [(0, .ref 9), (1, .int (nI k))]) (stk' := []) (mem' := cm g l a b R) (by intro _ _ _; eq_refl) ?_
    by_cases y2 : 900 ≤ k
    · rw [show (fx_cb .ge (nI k) 900) = true from cb_geT (a := k) (b := 900) (by omega) (by omega) (by omega)]
      dsimp only [cond]
      refine he_s 1 (pc' := 29) (lc' := [(0, .ref 9), (1, .int (nI k))]) (stk' := [.int (-1)]) (mem' := cm g l a b R) (by intro _ _ _; eq_refl) ?_
      exact he_ret (by rw [if_neg (by omega)]) (by rfl) (by rfl) (by rfl)
    · rw [show (fx_cb .ge (nI k) 900) = false from cb_geF (a := k) (b := 900) (by omega) (by omega) (by omega)]
      dsimp only [cond]
      refine he_s 3 (pc' := 24) (lc' := [(0, .ref 9), (1, .int (nI k))]) (stk' := [.int (nI k), .ref 10]) (mem' := cm g l a b R) (by intro _ _ _; eq_refl) ?_
      refine he_ldB (by rfl) (by rfl) (fx_inN (i := k) (by omega) (by omega)) ?_
      rw [show Int32.toNatClampNeg (nI k) = k from nI_clamp (by omega)]
      refine he_s 1 (pc' := 29) (lc' := [(0, .ref 9), (1, .int (nI k))]) (stk' := [.int (a 10 k)]) (mem' := cm g l a b R) (by intro _ _ _; eq_refl) ?_
      exact he_ret (by rw [if_pos (by omega)]) (by rfl) (by rfl) (by rfl)
/-- the number told of a word, as far as the words are asked -/
def cw_at (nm : Int64) (f : Nat → Int64) : Nat → Int32
  | 0 => -1
  | k + 1 => if f k = nm then nI k else cw_at nm f k
theorem cw_at_no {nm : Int64} {f : Nat → Int64} : ∀ k, (∀ j, j < k → ¬ f j = nm) → cw_at nm f k = -1 := by
  intro k
  induction k with
  | zero => intro _; rfl
  | succ k ih =>
    intro h
    show (if f k = nm then nI k else cw_at nm f k) = -1
    rw [if_neg (h k (by omega)), ih (fun j hj => h j (by omega))]
theorem cw_at_one {nm : Int64} {f : Nat → Int64} {i : Nat} (hi : f i = nm) : ∀ k, i < k → (∀ j, j < k → j ≠ i → ¬ f j = nm) → cw_at nm f k = nI i := by
  intro k
  induction k with
  | zero => intro h _; omega
  | succ k ih =>
    intro h h2
    show (if f k = nm then nI k else cw_at nm f k) = nI i
    by_cases e : k = i
    · rw [e, if_pos hi]
    · rw [if_neg (h2 k (by omega) e), ih (by omega) (fun j hj hne => h2 j (by omega) hne)]
/-- it is the word's number -/
theorem cw_at_kw {f : Nat → Int64} (hR : cr f) {L : List Nat} (hL : sp_lo L) : cw_at (if L.length ≤ 8 then Int64.ofNat (sp_cd L) else 0) f 23 = if sp_kw L < 23 then nI (sp_kw L) else -1 := by
  have key : ∀ j, j < 23 → f j = (if L.length ≤ 8 then Int64.ofNat (sp_cd L) else 0) → sp_KW[j]? = some L := by
    intro j hj e
    obtain ⟨w, hw⟩ : ∃ w, sp_KW[j]? = some w := ⟨_, List.getElem?_eq_getElem (show j < sp_KW.length from hj)⟩
    obtain ⟨w1, w2, w3⟩ := sp_KW_lo w (List.mem_of_getElem? hw)
    rw [hR j w hw] at e
    by_cases h8 : L.length ≤ 8
    · rw [if_pos h8] at e
      rw [hw, sp_cdI w1 w2 hL h8 e]
    · rw [if_neg h8] at e
      have := sp_i64 (sp_cd_63 w1 w2) (by decide) (show Int64.ofNat (sp_cd w) = Int64.ofNat 0 from e)
      omega
  by_cases h : sp_kw L < 23
  · rw [if_pos h]
    have hg := sp_kw_get h
    have h8 := (sp_KW_lo L (List.mem_of_getElem? hg)).2.1
    refine cw_at_one ?_ 23 h (fun j hj hne e => hne (sp_kw_of (key j hj e)).symm)
    rw [hR _ _ hg, if_pos h8]
  · rw [if_neg h]
    exact cw_at_no 23 (fun j hj e => h (by rw [sp_kw_of (key j hj e)]; exact hj))
theorem lg_cmp0' {x y : Int64} (h : fx_cb .ne (lg_cmp x y) 0 = false) : x = y := lg_cmp0 h
theorem ha_words {s : Nat} {nm c0 : Int64} (hn : n ≤ 900) {g2 : Nat → Nat → Int32} {l2 : Nat → Nat → Int64} (h8 : l2 9 8 = nm) : ∀ (r k : Nat), k + r = 23 → ∀ (g3 : Nat → Nat → Int32), cff g2 l2 g3 l2 → (∀ j, j ≠ 7 → g3 9 j = g2 9 j) → g3 9 7 = cw_at nm (b 11) k → he_R 1 gk_m105 103 [(3, .int (nI k)), (0, .ref 9), (1, .long c0)] [] (cm g3 l2 a b R) (fun R1 => ∃ g4 : Nat → Nat → Int32, cff g2 l2 g4 l2 ∧ (∀ j, j ≠ 7 → g4 9 j = g2 9 j) ∧ g4 9 7 = cw_at nm (b 11) 23 ∧ R1 = (none, cm g4 l2 a b R)) := by
  intro r
  induction r with
  | zero =>
    intro k hk g3 hf hj h7
    obtain rfl : k = 23 := by omega
    refine he_s 3 (pc' := cond (fx_cb .ge (nI 23) 23) 134 109) (lc' := [(3, .int (nI 23)), (0, .ref 9), (1, .long c0)]) (stk' := []) (mem' := cm g3 l2 a b R) (by intro _ _ _; eq_refl) ?_
    rw [show (fx_cb .ge (nI 23) 23) = true from by decide]
    exact he_ret ⟨g3, hf, hj, h7, rfl⟩ (by rfl) (by rfl) (by rfl)
  | succ r ih =>
    intro k hk g3 hf hj h7
    refine he_s 3 (pc' := cond (fx_cb .ge (nI k) 23) 134 109) (lc' := [(3, .int (nI k)), (0, .ref 9), (1, .long c0)]) (stk' := []) (mem' := cm g3 l2 a b R) (by intro _ _ _; eq_refl) ?_
    rw [show (fx_cb .ge (nI k) 23) = false from cb_geF (a := k) (b := 23) (by omega) (by omega) (by omega)]
    dsimp only [cond]
    refine he_s 3 (pc' := 114) (lc' := [(3, .int (nI k)), (0, .ref 9), (1, .long c0)]) (stk' := [.int (nI k), .ref 11]) (mem' := cm g3 l2 a b R) (by intro _ _ _; eq_refl) ?_
    refine he_ldL (by rfl) (by rfl) (fx_inN (i := k) (by omega) (by omega)) ?_
    rw [nI_clamp (by omega)]
    refine he_s 3 (pc' := 120) (lc' := [(3, .int (nI k)), (0, .ref 9), (1, .long c0)]) (stk' := [.int (lg_cmp (b 11 k) (l2 9 8))]) (mem' := cm g3 l2 a b R) (by intro _ _ _; eq_refl) ?_
    rw [h8]
    refine he_s 1 (pc' := cond (fx_cb .ne (lg_cmp (b 11 k) nm) 0) 128 123) (lc' := [(3, .int (nI k)), (0, .ref 9), (1, .long c0)]) (stk' := []) (mem' := cm g3 l2 a b R) (by intro _ _ _; eq_refl) ?_
    cases h : fx_cb .ne (lg_cmp (b 11 k) nm) 0
    · dsimp only [cond]
      refine he_s 5 (pc' := 103) (lc' := [(3, .int (nI k + 1)), (0, .ref 9), (1, .long c0)]) (stk' := []) (mem' := cm (fm_u g3 9 7 (nI k)) l2 a b R) (by intro _ _ _; eq_refl) ?_
      rw [show nI k + 1 = nI (k + 1) from nI_add k 1]
      refine ih (k + 1) (by omega) _ (cff_u hf (by decide) (by decide)) (fun j hj7 => (fm_uo hj7).trans (hj j hj7)) ?_
      rw [fm_ue]
      show _ = (if b 11 k = nm then nI k else cw_at nm (b 11) k)
      rw [if_pos (lg_cmp0 h)]
    · dsimp only [cond]
      refine he_s 2 (pc' := 103) (lc' := [(3, .int (nI k + 1)), (0, .ref 9), (1, .long c0)]) (stk' := []) (mem' := cm g3 l2 a b R) (by intro _ _ _; eq_refl) ?_
      rw [show nI k + 1 = nI (k + 1) from nI_add k 1]
      refine ih (k + 1) (by omega) g3 hf hj ?_
      rw [h7]
      show _ = (if b 11 k = nm then nI k else cw_at nm (b 11) k)
      rw [if_neg (lg_cmp1 h)]
theorem he_imp {k pc : Nat} {M : rk_M2} {lc : fx_L} {stk : List Value} {mem : fx_M} {F F' : Option Value × fx_M → Prop} (h : he_R k M pc lc stk mem F) (hi : ∀ R, F R → F' R) : he_R k M pc lc stk mem F' := by
  obtain ⟨R, h1, h2⟩ := h
  exact ⟨R, hi R h1, h2⟩
theorem fm_ul_e {l : Nat → Nat → Int64} {j k : Nat} {v : Int64} : (fm_ul l j k v) j k = v := by
  unfold fm_ul vp_updL
  rw [if_pos rfl, if_pos rfl]
theorem ha_word {s e : Nat} (hn : n ≤ 900) (hT : ct (a 10) T n) (hR : cr (b 11)) (hes : sp_e sp_sm T n s = e) : ∀ (r i : Nat), n - (s + i) = r → s + i ≤ n → ∀ (g2 : Nat → Nat → Int32), cff g l g2 l → g2 9 3 = nI n → g2 9 4 = nI s → g2 9 5 = nI (s + i) → g2 9 7 = -1 → (∀ j, s ≤ j → j < s + i → sp_sm (T j) = true) → sp_e sp_sm T n (s + i) = e → he_R 1 gk_m105 2 [(1, .long (Int64.ofNat (sp_cd (sp_L T s i)))), (0, .ref 9)] [] (cm g2 l a b R) (fun R1 => ∃ (g' : Nat → Nat → Int32) (l' : Nat → Nat → Int64), cff g l g' l' ∧ g' 9 4 = nI s ∧ g' 9 5 = nI (sp_e sp_sm T n s) ∧ g' 9 6 = 1 ∧ g' 9 7 = (if sp_kw (sp_L T s (sp_e sp_sm T n s - s)) < 23 then nI (sp_kw (sp_L T s (sp_e sp_sm T n s - s))) else -1) ∧ l' 9 8 = (if sp_e sp_sm T n s ≤ s + 8 then Int64.ofNat (sp_cd (sp_L T s (sp_e sp_sm T n s - s))) else 0) ∧ R1 = (none, cm g' l' a b R)) := by
  intro r
  induction r with
  | zero =>
    intro i hr hi g2 hf h3 h4 h5 h7 hall he
    refine he_s 4 (pc' := 10) (lc' := [(1, .long (Int64.ofNat (sp_cd (sp_L T s i)))), (0, .ref 9)]) (stk' := [.int (g2 9 3), .int (g2 9 5)]) (mem' := cm g2 l a b R) (by intro _ _ _; eq_refl) ?_
    try rw [h5]
    try rw [h3]
    refine he_s 1 (pc' := cond (fx_cb .ge (nI (s + i)) (nI n)) 73 13) (lc' := [(1, .long (Int64.ofNat (sp_cd (sp_L T s i)))), (0, .ref 9)]) (stk' := []) (mem' := cm g2 l a b R) (by intro _ _ _; eq_refl) ?_
    rw [show (fx_cb .ge (nI (s + i)) (nI n)) = true from cb_geT (a := s + i) (b := n) (by omega) (by omega) (by omega)]
    dsimp only [cond]
    refine he_s 10 (pc' := 90) (lc' := [(1, .long (Int64.ofNat (sp_cd (sp_L T s i)))), (0, .ref 9)]) (stk' := [.int 8, .int ((g2 9 5) - (g2 9 4)), .ref 9]) (mem' := cm (fm_u g2 9 6 1) l a b R) (by intro _ _ _; eq_refl) ?_
    try rw [h5]
    try rw [h4]
    rw [show ((nI (s + i)) - (nI s) : Int32) = nI ((s + i) - s) from by simp only [tg_sub2 (x := s + i) (y := s) (by omega), nI_add, fm_mul]]
    refine he_s 1 (pc' := cond (fx_cb .le (nI ((s + i) - s)) 8) 97 93) (lc' := [(1, .long (Int64.ofNat (sp_cd (sp_L T s i)))), (0, .ref 9)]) (stk' := [.ref 9]) (mem' := cm (fm_u g2 9 6 1) l a b R) (by intro _ _ _; eq_refl) ?_
    by_cases y1 : ((s + i) - s) ≤ 8
    · rw [show (fx_cb .le (nI ((s + i) - s)) 8) = true from cb_leT (a := (s + i) - s) (b := 8) (by omega) (by omega) (by omega)]
      dsimp only [cond]
      refine he_s 4 (pc' := 103) (lc' := [(3, .int 0), (1, .long (Int64.ofNat (sp_cd (sp_L T s i)))), (0, .ref 9)]) (stk' := []) (mem' := cm (fm_u g2 9 6 1) (fm_ul l 9 8 (Int64.ofNat (sp_cd (sp_L T s i)))) a b R) (by intro _ _ _; eq_refl) ?_
      have hno : ¬ (s + i < n ∧ sp_sm (T (s + i)) = true) := fun z => by have z2 := sp_sm_i.mp z.2; omega
      obtain rfl : e = s + i := by rw [← he]; exact sp_e_f hno
      have hL : sp_lo (sp_L T s i) := fun c hc => by
        obtain ⟨j, j1, rfl⟩ := sp_L_mem hc
        exact sp_sm_i.mp (hall _ (by omega) (by omega))
      refine he_w (lc' := [(3, .int (nI 0)), (0, .ref 9), (1, .long (Int64.ofNat (sp_cd (sp_L T s i))))]) ⟨rfl, rfl, rfl, trivial⟩ (by show List.Nodup [3, 0, 1]; decide) (by show List.Nodup [3, 1, 0]; decide) ?_
      refine he_imp (ha_words (l2 := (fm_ul l 9 8 (Int64.ofNat (sp_cd (sp_L T s i))))) (s := 0) (nm := Int64.ofNat (sp_cd (sp_L T s i))) hn fm_ul_e 23 0 rfl (fm_u g2 9 6 1) cff_rf (fun _ _ => rfl) h7) ?_
      rintro _ ⟨g4, k1, k2, k3, rfl⟩
      have e2 : sp_e sp_sm T n s - s = i := by omega
      refine ⟨g4, _, cff_tr (cff_ul (cff_u hf (by decide) (by decide))) k1, (k2 4 (by decide)).trans h4, (k2 5 (by decide)).trans (h5.trans (by rw [hes])), (k2 6 (by decide)).trans fm_ue, ?_, ?_, rfl⟩
      · rw [k3, e2, ← cw_at_kw hR hL, sp_L_len]
        rw [if_pos (by omega)]
      · rw [fm_ul_e, e2]
        rw [if_pos (by omega)]
    · rw [show (fx_cb .le (nI ((s + i) - s)) 8) = false from cb_leF (a := (s + i) - s) (b := 8) (by omega) (by omega) (by omega)]
      dsimp only [cond]
      refine he_s 5 (pc' := 103) (lc' := [(3, .int 0), (1, .long (Int64.ofNat (sp_cd (sp_L T s i)))), (0, .ref 9)]) (stk' := []) (mem' := cm (fm_u g2 9 6 1) (fm_ul l 9 8 0) a b R) (by intro _ _ _; eq_refl) ?_
      have hno : ¬ (s + i < n ∧ sp_sm (T (s + i)) = true) := fun z => by have z2 := sp_sm_i.mp z.2; omega
      obtain rfl : e = s + i := by rw [← he]; exact sp_e_f hno
      have hL : sp_lo (sp_L T s i) := fun c hc => by
        obtain ⟨j, j1, rfl⟩ := sp_L_mem hc
        exact sp_sm_i.mp (hall _ (by omega) (by omega))
      refine he_w (lc' := [(3, .int (nI 0)), (0, .ref 9), (1, .long (Int64.ofNat (sp_cd (sp_L T s i))))]) ⟨rfl, rfl, rfl, trivial⟩ (by show List.Nodup [3, 0, 1]; decide) (by show List.Nodup [3, 1, 0]; decide) ?_
      refine he_imp (ha_words (l2 := (fm_ul l 9 8 0)) (s := 0) (nm := 0) hn fm_ul_e 23 0 rfl (fm_u g2 9 6 1) cff_rf (fun _ _ => rfl) h7) ?_
      rintro _ ⟨g4, k1, k2, k3, rfl⟩
      have e2 : sp_e sp_sm T n s - s = i := by omega
      refine ⟨g4, _, cff_tr (cff_ul (cff_u hf (by decide) (by decide))) k1, (k2 4 (by decide)).trans h4, (k2 5 (by decide)).trans (h5.trans (by rw [hes])), (k2 6 (by decide)).trans fm_ue, ?_, ?_, rfl⟩
      · rw [k3, e2, ← cw_at_kw hR hL, sp_L_len]
        rw [if_neg (by omega)]
      · rw [fm_ul_e, e2]
        rw [if_neg (by omega)]
  | succ r ih =>
    intro i hr hi g2 hf h3 h4 h5 h7 hall he
    refine he_s 4 (pc' := 10) (lc' := [(1, .long (Int64.ofNat (sp_cd (sp_L T s i)))), (0, .ref 9)]) (stk' := [.int (g2 9 3), .int (g2 9 5)]) (mem' := cm g2 l a b R) (by intro _ _ _; eq_refl) ?_
    try rw [h5]
    try rw [h3]
    refine he_s 1 (pc' := cond (fx_cb .ge (nI (s + i)) (nI n)) 73 13) (lc' := [(1, .long (Int64.ofNat (sp_cd (sp_L T s i)))), (0, .ref 9)]) (stk' := []) (mem' := cm g2 l a b R) (by intro _ _ _; eq_refl) ?_
    by_cases y2 : n ≤ (s + i)
    · rw [show (fx_cb .ge (nI (s + i)) (nI n)) = true from cb_geT (a := s + i) (b := n) (by omega) (by omega) (by omega)]
      dsimp only [cond]
      refine he_s 10 (pc' := 90) (lc' := [(1, .long (Int64.ofNat (sp_cd (sp_L T s i)))), (0, .ref 9)]) (stk' := [.int 8, .int ((g2 9 5) - (g2 9 4)), .ref 9]) (mem' := cm (fm_u g2 9 6 1) l a b R) (by intro _ _ _; eq_refl) ?_
      try rw [h5]
      try rw [h4]
      rw [show ((nI (s + i)) - (nI s) : Int32) = nI ((s + i) - s) from by simp only [tg_sub2 (x := s + i) (y := s) (by omega), nI_add, fm_mul]]
      refine he_s 1 (pc' := cond (fx_cb .le (nI ((s + i) - s)) 8) 97 93) (lc' := [(1, .long (Int64.ofNat (sp_cd (sp_L T s i)))), (0, .ref 9)]) (stk' := [.ref 9]) (mem' := cm (fm_u g2 9 6 1) l a b R) (by intro _ _ _; eq_refl) ?_
      by_cases y3 : ((s + i) - s) ≤ 8
      · rw [show (fx_cb .le (nI ((s + i) - s)) 8) = true from cb_leT (a := (s + i) - s) (b := 8) (by omega) (by omega) (by omega)]
        dsimp only [cond]
        refine he_s 4 (pc' := 103) (lc' := [(3, .int 0), (1, .long (Int64.ofNat (sp_cd (sp_L T s i)))), (0, .ref 9)]) (stk' := []) (mem' := cm (fm_u g2 9 6 1) (fm_ul l 9 8 (Int64.ofNat (sp_cd (sp_L T s i)))) a b R) (by intro _ _ _; eq_refl) ?_
        have hno : ¬ (s + i < n ∧ sp_sm (T (s + i)) = true) := fun z => by have z2 := sp_sm_i.mp z.2; omega
        obtain rfl : e = s + i := by rw [← he]; exact sp_e_f hno
        have hL : sp_lo (sp_L T s i) := fun c hc => by
          obtain ⟨j, j1, rfl⟩ := sp_L_mem hc
          exact sp_sm_i.mp (hall _ (by omega) (by omega))
        refine he_w (lc' := [(3, .int (nI 0)), (0, .ref 9), (1, .long (Int64.ofNat (sp_cd (sp_L T s i))))]) ⟨rfl, rfl, rfl, trivial⟩ (by show List.Nodup [3, 0, 1]; decide) (by show List.Nodup [3, 1, 0]; decide) ?_
        refine he_imp (ha_words (l2 := (fm_ul l 9 8 (Int64.ofNat (sp_cd (sp_L T s i))))) (s := 0) (nm := Int64.ofNat (sp_cd (sp_L T s i))) hn fm_ul_e 23 0 rfl (fm_u g2 9 6 1) cff_rf (fun _ _ => rfl) h7) ?_
        rintro _ ⟨g4, k1, k2, k3, rfl⟩
        have e2 : sp_e sp_sm T n s - s = i := by omega
        refine ⟨g4, _, cff_tr (cff_ul (cff_u hf (by decide) (by decide))) k1, (k2 4 (by decide)).trans h4, (k2 5 (by decide)).trans (h5.trans (by rw [hes])), (k2 6 (by decide)).trans fm_ue, ?_, ?_, rfl⟩
        · rw [k3, e2, ← cw_at_kw hR hL, sp_L_len]
          rw [if_pos (by omega)]
        · rw [fm_ul_e, e2]
          rw [if_pos (by omega)]
      · rw [show (fx_cb .le (nI ((s + i) - s)) 8) = false from cb_leF (a := (s + i) - s) (b := 8) (by omega) (by omega) (by omega)]
        dsimp only [cond]
        refine he_s 5 (pc' := 103) (lc' := [(3, .int 0), (1, .long (Int64.ofNat (sp_cd (sp_L T s i)))), (0, .ref 9)]) (stk' := []) (mem' := cm (fm_u g2 9 6 1) (fm_ul l 9 8 0) a b R) (by intro _ _ _; eq_refl) ?_
        have hno : ¬ (s + i < n ∧ sp_sm (T (s + i)) = true) := fun z => by have z2 := sp_sm_i.mp z.2; omega
        obtain rfl : e = s + i := by rw [← he]; exact sp_e_f hno
        have hL : sp_lo (sp_L T s i) := fun c hc => by
          obtain ⟨j, j1, rfl⟩ := sp_L_mem hc
          exact sp_sm_i.mp (hall _ (by omega) (by omega))
        refine he_w (lc' := [(3, .int (nI 0)), (0, .ref 9), (1, .long (Int64.ofNat (sp_cd (sp_L T s i))))]) ⟨rfl, rfl, rfl, trivial⟩ (by show List.Nodup [3, 0, 1]; decide) (by show List.Nodup [3, 1, 0]; decide) ?_
        refine he_imp (ha_words (l2 := (fm_ul l 9 8 0)) (s := 0) (nm := 0) hn fm_ul_e 23 0 rfl (fm_u g2 9 6 1) cff_rf (fun _ _ => rfl) h7) ?_
        rintro _ ⟨g4, k1, k2, k3, rfl⟩
        have e2 : sp_e sp_sm T n s - s = i := by omega
        refine ⟨g4, _, cff_tr (cff_ul (cff_u hf (by decide) (by decide))) k1, (k2 4 (by decide)).trans h4, (k2 5 (by decide)).trans (h5.trans (by rw [hes])), (k2 6 (by decide)).trans fm_ue, ?_, ?_, rfl⟩
        · rw [k3, e2, ← cw_at_kw hR hL, sp_L_len]
          rw [if_neg (by omega)]
        · rw [fm_ul_e, e2]
          rw [if_neg (by omega)]
    · rw [show (fx_cb .ge (nI (s + i)) (nI n)) = false from cb_geF (a := s + i) (b := n) (by omega) (by omega) (by omega)]
      dsimp only [cond]
      refine he_s 3 (pc' := 18) (lc' := [(1, .long (Int64.ofNat (sp_cd (sp_L T s i)))), (0, .ref 9)]) (stk' := [.int (g2 9 5), .ref 9]) (mem' := cm g2 l a b R) (by intro _ _ _; eq_refl) ?_
      try rw [h5]
      refine he_ivV (ha_signAt (k := s + i) (show g2 9 3 = nI n from h3) hn (by omega)) (by omega) (by rfl) (by rfl) (by rfl) (by rfl) (by rfl) (by rfl) ?_
      rw [if_pos (show s + i < n from (by omega))]
      rcases hT.2 (s + i) (by omega) with ⟨uc4, ec4⟩ | ⟨uc4, wc4, ec4⟩
      · rw [ec4]
        refine he_s 1 (pc' := 23) (lc' := [(1, .long (Int64.ofNat (sp_cd (sp_L T s i)))), (0, .ref 9)]) (stk' := [.int 97, .int (nI (T (s + i)))]) (mem' := cm g2 l a b R) (by intro _ _ _; eq_refl) ?_
        refine he_s 1 (pc' := cond (fx_cb .lt (nI (T (s + i))) 97) 73 26) (lc' := [(1, .long (Int64.ofNat (sp_cd (sp_L T s i)))), (0, .ref 9)]) (stk' := []) (mem' := cm g2 l a b R) (by intro _ _ _; eq_refl) ?_
        by_cases y5 : (T (s + i)) < 97
        · rw [show (fx_cb .lt (nI (T (s + i))) 97) = true from cb_ltT (a := (T (s + i))) (b := 97) (by omega) (by omega) (by omega)]
          dsimp only [cond]
          refine he_s 10 (pc' := 90) (lc' := [(1, .long (Int64.ofNat (sp_cd (sp_L T s i)))), (0, .ref 9)]) (stk' := [.int 8, .int ((g2 9 5) - (g2 9 4)), .ref 9]) (mem' := cm (fm_u g2 9 6 1) l a b R) (by intro _ _ _; eq_refl) ?_
          try rw [h5]
          try rw [h4]
          rw [show ((nI (s + i)) - (nI s) : Int32) = nI ((s + i) - s) from by simp only [tg_sub2 (x := s + i) (y := s) (by omega), nI_add, fm_mul]]
          refine he_s 1 (pc' := cond (fx_cb .le (nI ((s + i) - s)) 8) 97 93) (lc' := [(1, .long (Int64.ofNat (sp_cd (sp_L T s i)))), (0, .ref 9)]) (stk' := [.ref 9]) (mem' := cm (fm_u g2 9 6 1) l a b R) (by intro _ _ _; eq_refl) ?_
          by_cases y6 : ((s + i) - s) ≤ 8
          · rw [show (fx_cb .le (nI ((s + i) - s)) 8) = true from cb_leT (a := (s + i) - s) (b := 8) (by omega) (by omega) (by omega)]
            dsimp only [cond]
            refine he_s 4 (pc' := 103) (lc' := [(3, .int 0), (1, .long (Int64.ofNat (sp_cd (sp_L T s i)))), (0, .ref 9)]) (stk' := []) (mem' := cm (fm_u g2 9 6 1) (fm_ul l 9 8 (Int64.ofNat (sp_cd (sp_L T s i)))) a b R) (by intro _ _ _; eq_refl) ?_
            have hno : ¬ (s + i < n ∧ sp_sm (T (s + i)) = true) := fun z => by have z2 := sp_sm_i.mp z.2; omega
            obtain rfl : e = s + i := by rw [← he]; exact sp_e_f hno
            have hL : sp_lo (sp_L T s i) := fun c hc => by
              obtain ⟨j, j1, rfl⟩ := sp_L_mem hc
              exact sp_sm_i.mp (hall _ (by omega) (by omega))
            refine he_w (lc' := [(3, .int (nI 0)), (0, .ref 9), (1, .long (Int64.ofNat (sp_cd (sp_L T s i))))]) ⟨rfl, rfl, rfl, trivial⟩ (by show List.Nodup [3, 0, 1]; decide) (by show List.Nodup [3, 1, 0]; decide) ?_
            refine he_imp (ha_words (l2 := (fm_ul l 9 8 (Int64.ofNat (sp_cd (sp_L T s i))))) (s := 0) (nm := Int64.ofNat (sp_cd (sp_L T s i))) hn fm_ul_e 23 0 rfl (fm_u g2 9 6 1) cff_rf (fun _ _ => rfl) h7) ?_
            rintro _ ⟨g4, k1, k2, k3, rfl⟩
            have e2 : sp_e sp_sm T n s - s = i := by omega
            refine ⟨g4, _, cff_tr (cff_ul (cff_u hf (by decide) (by decide))) k1, (k2 4 (by decide)).trans h4, (k2 5 (by decide)).trans (h5.trans (by rw [hes])), (k2 6 (by decide)).trans fm_ue, ?_, ?_, rfl⟩
            · rw [k3, e2, ← cw_at_kw hR hL, sp_L_len]
              rw [if_pos (by omega)]
            · rw [fm_ul_e, e2]
              rw [if_pos (by omega)]
          · rw [show (fx_cb .le (nI ((s + i) - s)) 8) = false from cb_leF (a := (s + i) - s) (b := 8) (by omega) (by omega) (by omega)]
            dsimp only [cond]
            refine he_s 5 (pc' := 103) (lc' := [(3, .int 0), (1, .long (Int64.ofNat (sp_cd (sp_L T s i)))), (0, .ref 9)]) (stk' := []) (mem' := cm (fm_u g2 9 6 1) (fm_ul l 9 8 0) a b R) (by intro _ _ _; eq_refl) ?_
            have hno : ¬ (s + i < n ∧ sp_sm (T (s + i)) = true) := fun z => by have z2 := sp_sm_i.mp z.2; omega
            obtain rfl : e = s + i := by rw [← he]; exact sp_e_f hno
            have hL : sp_lo (sp_L T s i) := fun c hc => by
              obtain ⟨j, j1, rfl⟩ := sp_L_mem hc
              exact sp_sm_i.mp (hall _ (by omega) (by omega))
            refine he_w (lc' := [(3, .int (nI 0)), (0, .ref 9), (1, .long (Int64.ofNat (sp_cd (sp_L T s i))))]) ⟨rfl, rfl, rfl, trivial⟩ (by show List.Nodup [3, 0, 1]; decide) (by show List.Nodup [3, 1, 0]; decide) ?_
            refine he_imp (ha_words (l2 := (fm_ul l 9 8 0)) (s := 0) (nm := 0) hn fm_ul_e 23 0 rfl (fm_u g2 9 6 1) cff_rf (fun _ _ => rfl) h7) ?_
            rintro _ ⟨g4, k1, k2, k3, rfl⟩
            have e2 : sp_e sp_sm T n s - s = i := by omega
            refine ⟨g4, _, cff_tr (cff_ul (cff_u hf (by decide) (by decide))) k1, (k2 4 (by decide)).trans h4, (k2 5 (by decide)).trans (h5.trans (by rw [hes])), (k2 6 (by decide)).trans fm_ue, ?_, ?_, rfl⟩
            · rw [k3, e2, ← cw_at_kw hR hL, sp_L_len]
              rw [if_neg (by omega)]
            · rw [fm_ul_e, e2]
              rw [if_neg (by omega)]
        · rw [show (fx_cb .lt (nI (T (s + i))) 97) = false from cb_ltF (a := (T (s + i))) (b := 97) (by omega) (by omega) (by omega)]
          dsimp only [cond]
          refine he_s 3 (pc' := 31) (lc' := [(1, .long (Int64.ofNat (sp_cd (sp_L T s i)))), (0, .ref 9)]) (stk' := [.int (g2 9 5), .ref 9]) (mem' := cm g2 l a b R) (by intro _ _ _; eq_refl) ?_
          try rw [h5]
          refine he_ivV (ha_signAt (k := s + i) (show g2 9 3 = nI n from h3) hn (by omega)) (by omega) (by rfl) (by rfl) (by rfl) (by rfl) (by rfl) (by rfl) ?_
          rw [if_pos (show s + i < n from (by omega)), ec4]
          refine he_s 1 (pc' := 36) (lc' := [(1, .long (Int64.ofNat (sp_cd (sp_L T s i)))), (0, .ref 9)]) (stk' := [.int 122, .int (nI (T (s + i)))]) (mem' := cm g2 l a b R) (by intro _ _ _; eq_refl) ?_
          refine he_s 1 (pc' := cond (fx_cb .gt (nI (T (s + i))) 122) 73 39) (lc' := [(1, .long (Int64.ofNat (sp_cd (sp_L T s i)))), (0, .ref 9)]) (stk' := []) (mem' := cm g2 l a b R) (by intro _ _ _; eq_refl) ?_
          by_cases y8 : 122 < (T (s + i))
          · rw [show (fx_cb .gt (nI (T (s + i))) 122) = true from cb_gtT (a := (T (s + i))) (b := 122) (by omega) (by omega) (by omega)]
            dsimp only [cond]
            refine he_s 10 (pc' := 90) (lc' := [(1, .long (Int64.ofNat (sp_cd (sp_L T s i)))), (0, .ref 9)]) (stk' := [.int 8, .int ((g2 9 5) - (g2 9 4)), .ref 9]) (mem' := cm (fm_u g2 9 6 1) l a b R) (by intro _ _ _; eq_refl) ?_
            try rw [h5]
            try rw [h4]
            rw [show ((nI (s + i)) - (nI s) : Int32) = nI ((s + i) - s) from by simp only [tg_sub2 (x := s + i) (y := s) (by omega), nI_add, fm_mul]]
            refine he_s 1 (pc' := cond (fx_cb .le (nI ((s + i) - s)) 8) 97 93) (lc' := [(1, .long (Int64.ofNat (sp_cd (sp_L T s i)))), (0, .ref 9)]) (stk' := [.ref 9]) (mem' := cm (fm_u g2 9 6 1) l a b R) (by intro _ _ _; eq_refl) ?_
            by_cases y9 : ((s + i) - s) ≤ 8
            · rw [show (fx_cb .le (nI ((s + i) - s)) 8) = true from cb_leT (a := (s + i) - s) (b := 8) (by omega) (by omega) (by omega)]
              dsimp only [cond]
              refine he_s 4 (pc' := 103) (lc' := [(3, .int 0), (1, .long (Int64.ofNat (sp_cd (sp_L T s i)))), (0, .ref 9)]) (stk' := []) (mem' := cm (fm_u g2 9 6 1) (fm_ul l 9 8 (Int64.ofNat (sp_cd (sp_L T s i)))) a b R) (by intro _ _ _; eq_refl) ?_
              have hno : ¬ (s + i < n ∧ sp_sm (T (s + i)) = true) := fun z => by have z2 := sp_sm_i.mp z.2; omega
              obtain rfl : e = s + i := by rw [← he]; exact sp_e_f hno
              have hL : sp_lo (sp_L T s i) := fun c hc => by
                obtain ⟨j, j1, rfl⟩ := sp_L_mem hc
                exact sp_sm_i.mp (hall _ (by omega) (by omega))
              refine he_w (lc' := [(3, .int (nI 0)), (0, .ref 9), (1, .long (Int64.ofNat (sp_cd (sp_L T s i))))]) ⟨rfl, rfl, rfl, trivial⟩ (by show List.Nodup [3, 0, 1]; decide) (by show List.Nodup [3, 1, 0]; decide) ?_
              refine he_imp (ha_words (l2 := (fm_ul l 9 8 (Int64.ofNat (sp_cd (sp_L T s i))))) (s := 0) (nm := Int64.ofNat (sp_cd (sp_L T s i))) hn fm_ul_e 23 0 rfl (fm_u g2 9 6 1) cff_rf (fun _ _ => rfl) h7) ?_
              rintro _ ⟨g4, k1, k2, k3, rfl⟩
              have e2 : sp_e sp_sm T n s - s = i := by omega
              refine ⟨g4, _, cff_tr (cff_ul (cff_u hf (by decide) (by decide))) k1, (k2 4 (by decide)).trans h4, (k2 5 (by decide)).trans (h5.trans (by rw [hes])), (k2 6 (by decide)).trans fm_ue, ?_, ?_, rfl⟩
              · rw [k3, e2, ← cw_at_kw hR hL, sp_L_len]
                rw [if_pos (by omega)]
              · rw [fm_ul_e, e2]
                rw [if_pos (by omega)]
            · rw [show (fx_cb .le (nI ((s + i) - s)) 8) = false from cb_leF (a := (s + i) - s) (b := 8) (by omega) (by omega) (by omega)]
              dsimp only [cond]
              refine he_s 5 (pc' := 103) (lc' := [(3, .int 0), (1, .long (Int64.ofNat (sp_cd (sp_L T s i)))), (0, .ref 9)]) (stk' := []) (mem' := cm (fm_u g2 9 6 1) (fm_ul l 9 8 0) a b R) (by intro _ _ _; eq_refl) ?_
              have hno : ¬ (s + i < n ∧ sp_sm (T (s + i)) = true) := fun z => by have z2 := sp_sm_i.mp z.2; omega
              obtain rfl : e = s + i := by rw [← he]; exact sp_e_f hno
              have hL : sp_lo (sp_L T s i) := fun c hc => by
                obtain ⟨j, j1, rfl⟩ := sp_L_mem hc
                exact sp_sm_i.mp (hall _ (by omega) (by omega))
              refine he_w (lc' := [(3, .int (nI 0)), (0, .ref 9), (1, .long (Int64.ofNat (sp_cd (sp_L T s i))))]) ⟨rfl, rfl, rfl, trivial⟩ (by show List.Nodup [3, 0, 1]; decide) (by show List.Nodup [3, 1, 0]; decide) ?_
              refine he_imp (ha_words (l2 := (fm_ul l 9 8 0)) (s := 0) (nm := 0) hn fm_ul_e 23 0 rfl (fm_u g2 9 6 1) cff_rf (fun _ _ => rfl) h7) ?_
              rintro _ ⟨g4, k1, k2, k3, rfl⟩
              have e2 : sp_e sp_sm T n s - s = i := by omega
              refine ⟨g4, _, cff_tr (cff_ul (cff_u hf (by decide) (by decide))) k1, (k2 4 (by decide)).trans h4, (k2 5 (by decide)).trans (h5.trans (by rw [hes])), (k2 6 (by decide)).trans fm_ue, ?_, ?_, rfl⟩
              · rw [k3, e2, ← cw_at_kw hR hL, sp_L_len]
                rw [if_neg (by omega)]
              · rw [fm_ul_e, e2]
                rw [if_neg (by omega)]
          · rw [show (fx_cb .gt (nI (T (s + i))) 122) = false from cb_gtF (a := (T (s + i))) (b := 122) (by omega) (by omega) (by omega)]
            dsimp only [cond]
            refine he_s 6 (pc' := 49) (lc' := [(1, .long (Int64.ofNat (sp_cd (sp_L T s i)))), (0, .ref 9)]) (stk' := [.int (g2 9 5), .ref 9, .long ((Int64.ofNat (sp_cd (sp_L T s i))) * 32)]) (mem' := cm g2 l a b R) (by intro _ _ _; eq_refl) ?_
            try rw [h5]
            refine he_ivV (ha_signAt (k := s + i) (show g2 9 3 = nI n from h3) hn (by omega)) (by omega) (by rfl) (by rfl) (by rfl) (by rfl) (by rfl) (by rfl) ?_
            rw [if_pos (show s + i < n from (by omega)), ec4]
            refine he_s 13 (pc' := 70) (lc' := [(1, .long (((Int64.ofNat (sp_cd (sp_L T s i))) * 32) + ((((nI (T (s + i))) - 97) + 1).toInt64))), (0, .ref 9)]) (stk' := []) (mem' := cm (fm_u g2 9 5 ((g2 9 5) + 1)) l a b R) (by intro _ _ _; eq_refl) ?_
            try rw [h5]
            rw [show ((nI (s + i)) + 1 : Int32) = nI ((s + i) + 1) from by simp only [show (1 : Int32) = nI 1 from rfl, nI_add, fm_mul]]
            refine he_s 1 (pc' := fx_to 70 (-68)) (lc' := [(1, .long (((Int64.ofNat (sp_cd (sp_L T s i))) * 32) + ((((nI (T (s + i))) - 97) + 1).toInt64))), (0, .ref 9)]) (stk' := []) (mem' := cm (fm_u g2 9 5 (nI ((s + i) + 1))) l a b R) (by intro _ _ _; eq_refl) ?_
            rw [show fx_to 70 (-68) = 2 from by decide]
            rw [show (((Int64.ofNat (sp_cd (sp_L T s i))) * 32) + ((((nI (T (s + i))) - 97) + 1).toInt64) : Int64) = Int64.ofNat (sp_cd (sp_L T s (i + 1))) from by rw [sp_L_s, sp_cd_s]; exact sp_cdstep (by omega) (by omega)]
            refine he_w (lc' := [(1, .long (Int64.ofNat (sp_cd (sp_L T s (i + 1))))), (0, .ref 9)]) ⟨rfl, rfl, trivial⟩ (by show List.Nodup [1, 0]; decide) (by show List.Nodup [1, 0]; decide) ?_
            have hsm : sp_sm (T (s + i)) = true := sp_sm_i.mpr ⟨by omega, by omega⟩
            refine ih (i + 1) (by omega) (by omega) _ (cff_u hf (by decide) (by decide)) h3 h4 rfl h7 (fun j j1 j2 => ?_) ?_
            · by_cases e1 : j = s + i
              · rw [e1]; exact hsm
              · exact hall j j1 (by omega)
            · rw [← he]; exact (sp_e_t (by omega) hsm).symm
      · refine he_s 1 (pc' := 23) (lc' := [(1, .long (Int64.ofNat (sp_cd (sp_L T s i)))), (0, .ref 9)]) (stk' := [.int 97, .int (a 10 (s + i))]) (mem' := cm g2 l a b R) (by intro _ _ _; eq_refl) ?_
        refine he_s 1 (pc' := cond (fx_cb .lt (a 10 (s + i)) 97) 73 26) (lc' := [(1, .long (Int64.ofNat (sp_cd (sp_L T s i)))), (0, .ref 9)]) (stk' := []) (mem' := cm g2 l a b R) (by intro _ _ _; eq_refl) ?_
        rw [show (fx_cb .lt (a 10 (s + i)) 97) = true from cb_neg_lt ec4 (by decide)]
        dsimp only [cond]
        refine he_s 10 (pc' := 90) (lc' := [(1, .long (Int64.ofNat (sp_cd (sp_L T s i)))), (0, .ref 9)]) (stk' := [.int 8, .int ((g2 9 5) - (g2 9 4)), .ref 9]) (mem' := cm (fm_u g2 9 6 1) l a b R) (by intro _ _ _; eq_refl) ?_
        try rw [h5]
        try rw [h4]
        rw [show ((nI (s + i)) - (nI s) : Int32) = nI ((s + i) - s) from by simp only [tg_sub2 (x := s + i) (y := s) (by omega), nI_add, fm_mul]]
        refine he_s 1 (pc' := cond (fx_cb .le (nI ((s + i) - s)) 8) 97 93) (lc' := [(1, .long (Int64.ofNat (sp_cd (sp_L T s i)))), (0, .ref 9)]) (stk' := [.ref 9]) (mem' := cm (fm_u g2 9 6 1) l a b R) (by intro _ _ _; eq_refl) ?_
        by_cases y11 : ((s + i) - s) ≤ 8
        · rw [show (fx_cb .le (nI ((s + i) - s)) 8) = true from cb_leT (a := (s + i) - s) (b := 8) (by omega) (by omega) (by omega)]
          dsimp only [cond]
          refine he_s 4 (pc' := 103) (lc' := [(3, .int 0), (1, .long (Int64.ofNat (sp_cd (sp_L T s i)))), (0, .ref 9)]) (stk' := []) (mem' := cm (fm_u g2 9 6 1) (fm_ul l 9 8 (Int64.ofNat (sp_cd (sp_L T s i)))) a b R) (by intro _ _ _; eq_refl) ?_
          have hno : ¬ (s + i < n ∧ sp_sm (T (s + i)) = true) := fun z => by have z2 := sp_sm_i.mp z.2; omega
          obtain rfl : e = s + i := by rw [← he]; exact sp_e_f hno
          have hL : sp_lo (sp_L T s i) := fun c hc => by
            obtain ⟨j, j1, rfl⟩ := sp_L_mem hc
            exact sp_sm_i.mp (hall _ (by omega) (by omega))
          refine he_w (lc' := [(3, .int (nI 0)), (0, .ref 9), (1, .long (Int64.ofNat (sp_cd (sp_L T s i))))]) ⟨rfl, rfl, rfl, trivial⟩ (by show List.Nodup [3, 0, 1]; decide) (by show List.Nodup [3, 1, 0]; decide) ?_
          refine he_imp (ha_words (l2 := (fm_ul l 9 8 (Int64.ofNat (sp_cd (sp_L T s i))))) (s := 0) (nm := Int64.ofNat (sp_cd (sp_L T s i))) hn fm_ul_e 23 0 rfl (fm_u g2 9 6 1) cff_rf (fun _ _ => rfl) h7) ?_
          rintro _ ⟨g4, k1, k2, k3, rfl⟩
          have e2 : sp_e sp_sm T n s - s = i := by omega
          refine ⟨g4, _, cff_tr (cff_ul (cff_u hf (by decide) (by decide))) k1, (k2 4 (by decide)).trans h4, (k2 5 (by decide)).trans (h5.trans (by rw [hes])), (k2 6 (by decide)).trans fm_ue, ?_, ?_, rfl⟩
          · rw [k3, e2, ← cw_at_kw hR hL, sp_L_len]
            rw [if_pos (by omega)]
          · rw [fm_ul_e, e2]
            rw [if_pos (by omega)]
        · rw [show (fx_cb .le (nI ((s + i) - s)) 8) = false from cb_leF (a := (s + i) - s) (b := 8) (by omega) (by omega) (by omega)]
          dsimp only [cond]
          refine he_s 5 (pc' := 103) (lc' := [(3, .int 0), (1, .long (Int64.ofNat (sp_cd (sp_L T s i)))), (0, .ref 9)]) (stk' := []) (mem' := cm (fm_u g2 9 6 1) (fm_ul l 9 8 0) a b R) (by intro _ _ _; eq_refl) ?_
          have hno : ¬ (s + i < n ∧ sp_sm (T (s + i)) = true) := fun z => by have z2 := sp_sm_i.mp z.2; omega
          obtain rfl : e = s + i := by rw [← he]; exact sp_e_f hno
          have hL : sp_lo (sp_L T s i) := fun c hc => by
            obtain ⟨j, j1, rfl⟩ := sp_L_mem hc
            exact sp_sm_i.mp (hall _ (by omega) (by omega))
          refine he_w (lc' := [(3, .int (nI 0)), (0, .ref 9), (1, .long (Int64.ofNat (sp_cd (sp_L T s i))))]) ⟨rfl, rfl, rfl, trivial⟩ (by show List.Nodup [3, 0, 1]; decide) (by show List.Nodup [3, 1, 0]; decide) ?_
          refine he_imp (ha_words (l2 := (fm_ul l 9 8 0)) (s := 0) (nm := 0) hn fm_ul_e 23 0 rfl (fm_u g2 9 6 1) cff_rf (fun _ _ => rfl) h7) ?_
          rintro _ ⟨g4, k1, k2, k3, rfl⟩
          have e2 : sp_e sp_sm T n s - s = i := by omega
          refine ⟨g4, _, cff_tr (cff_ul (cff_u hf (by decide) (by decide))) k1, (k2 4 (by decide)).trans h4, (k2 5 (by decide)).trans (h5.trans (by rw [hes])), (k2 6 (by decide)).trans fm_ue, ?_, ?_, rfl⟩
          · rw [k3, e2, ← cw_at_kw hR hL, sp_L_len]
            rw [if_neg (by omega)]
          · rw [fm_ul_e, e2]
            rw [if_neg (by omega)]
theorem ha_scanWord {s : Nat} (hn : n ≤ 900) (hT : ct (a 10) T n) (hR : cr (b 11)) (hs : s ≤ n) (h3 : g 9 3 = nI n) (h4 : g 9 4 = nI s) (h5 : g 9 5 = nI s) (h7 : g 9 7 = -1) : ∃ (v : Option Value) (mem' : fx_M), (fun R1 => ∃ (g' : Nat → Nat → Int32) (l' : Nat → Nat → Int64), cff g l g' l' ∧ g' 9 4 = nI s ∧ g' 9 5 = nI (sp_e sp_sm T n s) ∧ g' 9 6 = 1 ∧ g' 9 7 = (if sp_kw (sp_L T s (sp_e sp_sm T n s - s)) < 23 then nI (sp_kw (sp_L T s (sp_e sp_sm T n s - s))) else -1) ∧ l' 9 8 = (if sp_e sp_sm T n s ≤ s + 8 then Int64.ofNat (sp_cd (sp_L T s (sp_e sp_sm T n s - s))) else 0) ∧ R1 = (none, cm g' l' a b R)) (v, mem') ∧ hr_T 2 105 [.ref 9] (cm g l a b R) v mem' := by
  refine he_meth (F := fun R1 => ∃ (g' : Nat → Nat → Int32) (l' : Nat → Nat → Int64), cff g l g' l' ∧ g' 9 4 = nI s ∧ g' 9 5 = nI (sp_e sp_sm T n s) ∧ g' 9 6 = 1 ∧ g' 9 7 = (if sp_kw (sp_L T s (sp_e sp_sm T n s - s)) < 23 then nI (sp_kw (sp_L T s (sp_e sp_sm T n s - s))) else -1) ∧ l' 9 8 = (if sp_e sp_sm T n s ≤ s + 8 then Int64.ofNat (sp_cd (sp_L T s (sp_e sp_sm T n s - s))) else 0) ∧ R1 = (none, cm g' l' a b R)) (M := gk_m105) (by rfl) (by rfl) ?_
  refine he_s 2 (pc' := 2) (lc' := [(1, .long 0), (0, .ref 9)]) (stk' := []) (mem' := cm g l a b R) (by intro _ _ _; eq_refl) ?_
  exact ha_word hn hT hR rfl (n - s) 0 rfl hs g cff_rf h3 h4 h5 h7 (fun j j1 j2 => absurd j2 (by omega)) rfl
theorem ha_num {s e : Nat} (hn : n ≤ 900) (hT : ct (a 10) T n) (hes : sp_e sp_dg T n s = e) : ∀ (r i : Nat), n - (s + i) = r → s + i ≤ n → ∀ (g2 : Nat → Nat → Int32), cff g l g2 l → g2 9 3 = nI n → g2 9 4 = nI s → g2 9 5 = nI (s + i) → g2 9 7 = -1 → g2 9 9 = nI (sp_nb T s i) → sp_e sp_dg T n (s + i) = e → he_R 1 gk_m106 5 [(0, .ref 9)] [] (cm g2 l a b R) (fun R1 => ∃ (g' : Nat → Nat → Int32), cff g l g' l ∧ g' 9 4 = nI s ∧ g' 9 5 = nI (sp_e sp_dg T n s) ∧ g' 9 6 = (if sp_e sp_dg T n s ≤ s + 4 then 2 else 4) ∧ g' 9 7 = -1 ∧ g' 9 9 = nI (sp_nb T s (sp_e sp_dg T n s - s)) ∧ R1 = (none, cm g' l a b R)) := by
  intro r
  induction r with
  | zero =>
    intro i hr hi g2 hf h3 h4 h5 h7 h9 he
    refine he_s 4 (pc' := 13) (lc' := [(0, .ref 9)]) (stk' := [.int (g2 9 3), .int (g2 9 5)]) (mem' := cm g2 l a b R) (by intro _ _ _; eq_refl) ?_
    try rw [h5]
    try rw [h3]
    refine he_s 1 (pc' := cond (fx_cb .ge (nI (s + i)) (nI n)) 78 16) (lc' := [(0, .ref 9)]) (stk' := []) (mem' := cm g2 l a b R) (by intro _ _ _; eq_refl) ?_
    rw [show (fx_cb .ge (nI (s + i)) (nI n)) = true from cb_geT (a := s + i) (b := n) (by omega) (by omega) (by omega)]
    dsimp only [cond]
    refine he_s 7 (pc' := 89) (lc' := [(0, .ref 9)]) (stk' := [.int 4, .int ((g2 9 5) - (g2 9 4)), .ref 9]) (mem' := cm g2 l a b R) (by intro _ _ _; eq_refl) ?_
    try rw [h5]
    try rw [h4]
    rw [show ((nI (s + i)) - (nI s) : Int32) = nI ((s + i) - s) from by simp only [tg_sub2 (x := s + i) (y := s) (by omega), nI_add, fm_mul]]
    refine he_s 1 (pc' := cond (fx_cb .le (nI ((s + i) - s)) 4) 96 92) (lc' := [(0, .ref 9)]) (stk' := [.ref 9]) (mem' := cm g2 l a b R) (by intro _ _ _; eq_refl) ?_
    by_cases y1 : ((s + i) - s) ≤ 4
    · rw [show (fx_cb .le (nI ((s + i) - s)) 4) = true from cb_leT (a := (s + i) - s) (b := 4) (by omega) (by omega) (by omega)]
      dsimp only [cond]
      refine he_s 2 (pc' := 100) (lc' := [(0, .ref 9)]) (stk' := []) (mem' := cm (fm_u g2 9 6 2) l a b R) (by intro _ _ _; eq_refl) ?_
      have hno : ¬ (s + i < n ∧ sp_dg (T (s + i)) = true) := fun z => by have z2 := sp_dg_i.mp z.2; omega
      obtain rfl : e = s + i := by rw [← he]; exact sp_e_f hno
      have e2 : sp_e sp_dg T n s - s = i := by omega
      refine he_ret ⟨_, cff_u hf (by decide) (by decide), (by exact h4), (by exact h5.trans (by rw [hes])), ?_, (by exact h7), ?_, rfl⟩ (by rfl) (by rfl) (by rfl)
      · rw [fm_ue, if_pos (by omega)]
      · rw [e2]; exact h9
    · rw [show (fx_cb .le (nI ((s + i) - s)) 4) = false from cb_leF (a := (s + i) - s) (b := 4) (by omega) (by omega) (by omega)]
      dsimp only [cond]
      refine he_s 3 (pc' := 100) (lc' := [(0, .ref 9)]) (stk' := []) (mem' := cm (fm_u g2 9 6 4) l a b R) (by intro _ _ _; eq_refl) ?_
      have hno : ¬ (s + i < n ∧ sp_dg (T (s + i)) = true) := fun z => by have z2 := sp_dg_i.mp z.2; omega
      obtain rfl : e = s + i := by rw [← he]; exact sp_e_f hno
      have e2 : sp_e sp_dg T n s - s = i := by omega
      refine he_ret ⟨_, cff_u hf (by decide) (by decide), (by exact h4), (by exact h5.trans (by rw [hes])), ?_, (by exact h7), ?_, rfl⟩ (by rfl) (by rfl) (by rfl)
      · rw [fm_ue, if_neg (by omega)]
      · rw [e2]; exact h9
  | succ r ih =>
    intro i hr hi g2 hf h3 h4 h5 h7 h9 he
    refine he_s 4 (pc' := 13) (lc' := [(0, .ref 9)]) (stk' := [.int (g2 9 3), .int (g2 9 5)]) (mem' := cm g2 l a b R) (by intro _ _ _; eq_refl) ?_
    try rw [h5]
    try rw [h3]
    refine he_s 1 (pc' := cond (fx_cb .ge (nI (s + i)) (nI n)) 78 16) (lc' := [(0, .ref 9)]) (stk' := []) (mem' := cm g2 l a b R) (by intro _ _ _; eq_refl) ?_
    by_cases y2 : n ≤ (s + i)
    · rw [show (fx_cb .ge (nI (s + i)) (nI n)) = true from cb_geT (a := s + i) (b := n) (by omega) (by omega) (by omega)]
      dsimp only [cond]
      refine he_s 7 (pc' := 89) (lc' := [(0, .ref 9)]) (stk' := [.int 4, .int ((g2 9 5) - (g2 9 4)), .ref 9]) (mem' := cm g2 l a b R) (by intro _ _ _; eq_refl) ?_
      try rw [h5]
      try rw [h4]
      rw [show ((nI (s + i)) - (nI s) : Int32) = nI ((s + i) - s) from by simp only [tg_sub2 (x := s + i) (y := s) (by omega), nI_add, fm_mul]]
      refine he_s 1 (pc' := cond (fx_cb .le (nI ((s + i) - s)) 4) 96 92) (lc' := [(0, .ref 9)]) (stk' := [.ref 9]) (mem' := cm g2 l a b R) (by intro _ _ _; eq_refl) ?_
      by_cases y3 : ((s + i) - s) ≤ 4
      · rw [show (fx_cb .le (nI ((s + i) - s)) 4) = true from cb_leT (a := (s + i) - s) (b := 4) (by omega) (by omega) (by omega)]
        dsimp only [cond]
        refine he_s 2 (pc' := 100) (lc' := [(0, .ref 9)]) (stk' := []) (mem' := cm (fm_u g2 9 6 2) l a b R) (by intro _ _ _; eq_refl) ?_
        have hno : ¬ (s + i < n ∧ sp_dg (T (s + i)) = true) := fun z => by have z2 := sp_dg_i.mp z.2; omega
        obtain rfl : e = s + i := by rw [← he]; exact sp_e_f hno
        have e2 : sp_e sp_dg T n s - s = i := by omega
        refine he_ret ⟨_, cff_u hf (by decide) (by decide), (by exact h4), (by exact h5.trans (by rw [hes])), ?_, (by exact h7), ?_, rfl⟩ (by rfl) (by rfl) (by rfl)
        · rw [fm_ue, if_pos (by omega)]
        · rw [e2]; exact h9
      · rw [show (fx_cb .le (nI ((s + i) - s)) 4) = false from cb_leF (a := (s + i) - s) (b := 4) (by omega) (by omega) (by omega)]
        dsimp only [cond]
        refine he_s 3 (pc' := 100) (lc' := [(0, .ref 9)]) (stk' := []) (mem' := cm (fm_u g2 9 6 4) l a b R) (by intro _ _ _; eq_refl) ?_
        have hno : ¬ (s + i < n ∧ sp_dg (T (s + i)) = true) := fun z => by have z2 := sp_dg_i.mp z.2; omega
        obtain rfl : e = s + i := by rw [← he]; exact sp_e_f hno
        have e2 : sp_e sp_dg T n s - s = i := by omega
        refine he_ret ⟨_, cff_u hf (by decide) (by decide), (by exact h4), (by exact h5.trans (by rw [hes])), ?_, (by exact h7), ?_, rfl⟩ (by rfl) (by rfl) (by rfl)
        · rw [fm_ue, if_neg (by omega)]
        · rw [e2]; exact h9
    · rw [show (fx_cb .ge (nI (s + i)) (nI n)) = false from cb_geF (a := s + i) (b := n) (by omega) (by omega) (by omega)]
      dsimp only [cond]
      refine he_s 3 (pc' := 21) (lc' := [(0, .ref 9)]) (stk' := [.int (g2 9 5), .ref 9]) (mem' := cm g2 l a b R) (by intro _ _ _; eq_refl) ?_
      try rw [h5]
      refine he_ivV (ha_signAt (k := s + i) (show g2 9 3 = nI n from h3) hn (by omega)) (by omega) (by rfl) (by rfl) (by rfl) (by rfl) (by rfl) (by rfl) ?_
      rw [if_pos (show s + i < n from (by omega))]
      rcases hT.2 (s + i) (by omega) with ⟨uc4, ec4⟩ | ⟨uc4, wc4, ec4⟩
      · rw [ec4]
        refine he_s 1 (pc' := 26) (lc' := [(0, .ref 9)]) (stk' := [.int 48, .int (nI (T (s + i)))]) (mem' := cm g2 l a b R) (by intro _ _ _; eq_refl) ?_
        refine he_s 1 (pc' := cond (fx_cb .lt (nI (T (s + i))) 48) 78 29) (lc' := [(0, .ref 9)]) (stk' := []) (mem' := cm g2 l a b R) (by intro _ _ _; eq_refl) ?_
        by_cases y5 : (T (s + i)) < 48
        · rw [show (fx_cb .lt (nI (T (s + i))) 48) = true from cb_ltT (a := (T (s + i))) (b := 48) (by omega) (by omega) (by omega)]
          dsimp only [cond]
          refine he_s 7 (pc' := 89) (lc' := [(0, .ref 9)]) (stk' := [.int 4, .int ((g2 9 5) - (g2 9 4)), .ref 9]) (mem' := cm g2 l a b R) (by intro _ _ _; eq_refl) ?_
          try rw [h5]
          try rw [h4]
          rw [show ((nI (s + i)) - (nI s) : Int32) = nI ((s + i) - s) from by simp only [tg_sub2 (x := s + i) (y := s) (by omega), nI_add, fm_mul]]
          refine he_s 1 (pc' := cond (fx_cb .le (nI ((s + i) - s)) 4) 96 92) (lc' := [(0, .ref 9)]) (stk' := [.ref 9]) (mem' := cm g2 l a b R) (by intro _ _ _; eq_refl) ?_
          by_cases y6 : ((s + i) - s) ≤ 4
          · rw [show (fx_cb .le (nI ((s + i) - s)) 4) = true from cb_leT (a := (s + i) - s) (b := 4) (by omega) (by omega) (by omega)]
            dsimp only [cond]
            refine he_s 2 (pc' := 100) (lc' := [(0, .ref 9)]) (stk' := []) (mem' := cm (fm_u g2 9 6 2) l a b R) (by intro _ _ _; eq_refl) ?_
            have hno : ¬ (s + i < n ∧ sp_dg (T (s + i)) = true) := fun z => by have z2 := sp_dg_i.mp z.2; omega
            obtain rfl : e = s + i := by rw [← he]; exact sp_e_f hno
            have e2 : sp_e sp_dg T n s - s = i := by omega
            refine he_ret ⟨_, cff_u hf (by decide) (by decide), (by exact h4), (by exact h5.trans (by rw [hes])), ?_, (by exact h7), ?_, rfl⟩ (by rfl) (by rfl) (by rfl)
            · rw [fm_ue, if_pos (by omega)]
            · rw [e2]; exact h9
          · rw [show (fx_cb .le (nI ((s + i) - s)) 4) = false from cb_leF (a := (s + i) - s) (b := 4) (by omega) (by omega) (by omega)]
            dsimp only [cond]
            refine he_s 3 (pc' := 100) (lc' := [(0, .ref 9)]) (stk' := []) (mem' := cm (fm_u g2 9 6 4) l a b R) (by intro _ _ _; eq_refl) ?_
            have hno : ¬ (s + i < n ∧ sp_dg (T (s + i)) = true) := fun z => by have z2 := sp_dg_i.mp z.2; omega
            obtain rfl : e = s + i := by rw [← he]; exact sp_e_f hno
            have e2 : sp_e sp_dg T n s - s = i := by omega
            refine he_ret ⟨_, cff_u hf (by decide) (by decide), (by exact h4), (by exact h5.trans (by rw [hes])), ?_, (by exact h7), ?_, rfl⟩ (by rfl) (by rfl) (by rfl)
            · rw [fm_ue, if_neg (by omega)]
            · rw [e2]; exact h9
        · rw [show (fx_cb .lt (nI (T (s + i))) 48) = false from cb_ltF (a := (T (s + i))) (b := 48) (by omega) (by omega) (by omega)]
          dsimp only [cond]
          refine he_s 3 (pc' := 34) (lc' := [(0, .ref 9)]) (stk' := [.int (g2 9 5), .ref 9]) (mem' := cm g2 l a b R) (by intro _ _ _; eq_refl) ?_
          try rw [h5]
          refine he_ivV (ha_signAt (k := s + i) (show g2 9 3 = nI n from h3) hn (by omega)) (by omega) (by rfl) (by rfl) (by rfl) (by rfl) (by rfl) (by rfl) ?_
          rw [if_pos (show s + i < n from (by omega)), ec4]
          refine he_s 1 (pc' := 39) (lc' := [(0, .ref 9)]) (stk' := [.int 57, .int (nI (T (s + i)))]) (mem' := cm g2 l a b R) (by intro _ _ _; eq_refl) ?_
          refine he_s 1 (pc' := cond (fx_cb .gt (nI (T (s + i))) 57) 78 42) (lc' := [(0, .ref 9)]) (stk' := []) (mem' := cm g2 l a b R) (by intro _ _ _; eq_refl) ?_
          by_cases y8 : 57 < (T (s + i))
          · rw [show (fx_cb .gt (nI (T (s + i))) 57) = true from cb_gtT (a := (T (s + i))) (b := 57) (by omega) (by omega) (by omega)]
            dsimp only [cond]
            refine he_s 7 (pc' := 89) (lc' := [(0, .ref 9)]) (stk' := [.int 4, .int ((g2 9 5) - (g2 9 4)), .ref 9]) (mem' := cm g2 l a b R) (by intro _ _ _; eq_refl) ?_
            try rw [h5]
            try rw [h4]
            rw [show ((nI (s + i)) - (nI s) : Int32) = nI ((s + i) - s) from by simp only [tg_sub2 (x := s + i) (y := s) (by omega), nI_add, fm_mul]]
            refine he_s 1 (pc' := cond (fx_cb .le (nI ((s + i) - s)) 4) 96 92) (lc' := [(0, .ref 9)]) (stk' := [.ref 9]) (mem' := cm g2 l a b R) (by intro _ _ _; eq_refl) ?_
            by_cases y9 : ((s + i) - s) ≤ 4
            · rw [show (fx_cb .le (nI ((s + i) - s)) 4) = true from cb_leT (a := (s + i) - s) (b := 4) (by omega) (by omega) (by omega)]
              dsimp only [cond]
              refine he_s 2 (pc' := 100) (lc' := [(0, .ref 9)]) (stk' := []) (mem' := cm (fm_u g2 9 6 2) l a b R) (by intro _ _ _; eq_refl) ?_
              have hno : ¬ (s + i < n ∧ sp_dg (T (s + i)) = true) := fun z => by have z2 := sp_dg_i.mp z.2; omega
              obtain rfl : e = s + i := by rw [← he]; exact sp_e_f hno
              have e2 : sp_e sp_dg T n s - s = i := by omega
              refine he_ret ⟨_, cff_u hf (by decide) (by decide), (by exact h4), (by exact h5.trans (by rw [hes])), ?_, (by exact h7), ?_, rfl⟩ (by rfl) (by rfl) (by rfl)
              · rw [fm_ue, if_pos (by omega)]
              · rw [e2]; exact h9
            · rw [show (fx_cb .le (nI ((s + i) - s)) 4) = false from cb_leF (a := (s + i) - s) (b := 4) (by omega) (by omega) (by omega)]
              dsimp only [cond]
              refine he_s 3 (pc' := 100) (lc' := [(0, .ref 9)]) (stk' := []) (mem' := cm (fm_u g2 9 6 4) l a b R) (by intro _ _ _; eq_refl) ?_
              have hno : ¬ (s + i < n ∧ sp_dg (T (s + i)) = true) := fun z => by have z2 := sp_dg_i.mp z.2; omega
              obtain rfl : e = s + i := by rw [← he]; exact sp_e_f hno
              have e2 : sp_e sp_dg T n s - s = i := by omega
              refine he_ret ⟨_, cff_u hf (by decide) (by decide), (by exact h4), (by exact h5.trans (by rw [hes])), ?_, (by exact h7), ?_, rfl⟩ (by rfl) (by rfl) (by rfl)
              · rw [fm_ue, if_neg (by omega)]
              · rw [e2]; exact h9
          · rw [show (fx_cb .gt (nI (T (s + i))) 57) = false from cb_gtF (a := (T (s + i))) (b := 57) (by omega) (by omega) (by omega)]
            dsimp only [cond]
            refine he_s 8 (pc' := 55) (lc' := [(0, .ref 9)]) (stk' := [.int (g2 9 5), .ref 9, .int ((g2 9 9) * 10), .ref 9]) (mem' := cm g2 l a b R) (by intro _ _ _; eq_refl) ?_
            try rw [h9]
            try rw [h5]
            rw [show ((nI (sp_nb T s i)) * 10 : Int32) = nI ((sp_nb T s i) * 10) from by simp only [show (10 : Int32) = nI 10 from rfl, nI_add, fm_mul]]
            refine he_ivV (ha_signAt (k := s + i) (show g2 9 3 = nI n from h3) hn (by omega)) (by omega) (by rfl) (by rfl) (by rfl) (by rfl) (by rfl) (by rfl) ?_
            rw [if_pos (show s + i < n from (by omega)), ec4]
            refine he_s 10 (pc' := 75) (lc' := [(0, .ref 9)]) (stk' := []) (mem' := cm (fm_u (fm_u g2 9 9 ((nI ((sp_nb T s i) * 10)) + ((nI (T (s + i))) - 48))) 9 5 ((g2 9 5) + 1)) l a b R) (by intro _ _ _; eq_refl) ?_
            try rw [h5]
            rw [show ((nI (s + i)) + 1 : Int32) = nI ((s + i) + 1) from by simp only [show (1 : Int32) = nI 1 from rfl, nI_add, fm_mul]]
            rw [show ((nI ((sp_nb T s i) * 10)) + ((nI (T (s + i))) - 48) : Int32) = nI (((sp_nb T s i) * 10) + ((T (s + i)) - 48)) from by simp only [show (48 : Int32) = nI 48 from rfl, tg_sub2 (x := (T (s + i))) (y := 48) (by omega), nI_add, fm_mul]]
            refine he_s 1 (pc' := fx_to 75 (-70)) (lc' := [(0, .ref 9)]) (stk' := []) (mem' := cm (fm_u (fm_u g2 9 9 (nI (((sp_nb T s i) * 10) + ((T (s + i)) - 48)))) 9 5 (nI ((s + i) + 1))) l a b R) (by intro _ _ _; eq_refl) ?_
            rw [show fx_to 75 (-70) = 5 from by decide]
            have hsm : sp_dg (T (s + i)) = true := sp_dg_i.mpr ⟨by omega, by omega⟩
            refine ih (i + 1) (by omega) (by omega) _ (cff_u (cff_u hf (by decide) (by decide)) (by decide) (by decide)) h3 h4 rfl h7 rfl ?_
            rw [← he]; exact (sp_e_t (by omega) hsm).symm
      · refine he_s 1 (pc' := 26) (lc' := [(0, .ref 9)]) (stk' := [.int 48, .int (a 10 (s + i))]) (mem' := cm g2 l a b R) (by intro _ _ _; eq_refl) ?_
        refine he_s 1 (pc' := cond (fx_cb .lt (a 10 (s + i)) 48) 78 29) (lc' := [(0, .ref 9)]) (stk' := []) (mem' := cm g2 l a b R) (by intro _ _ _; eq_refl) ?_
        rw [show (fx_cb .lt (a 10 (s + i)) 48) = true from cb_neg_lt ec4 (by decide)]
        dsimp only [cond]
        refine he_s 7 (pc' := 89) (lc' := [(0, .ref 9)]) (stk' := [.int 4, .int ((g2 9 5) - (g2 9 4)), .ref 9]) (mem' := cm g2 l a b R) (by intro _ _ _; eq_refl) ?_
        try rw [h5]
        try rw [h4]
        rw [show ((nI (s + i)) - (nI s) : Int32) = nI ((s + i) - s) from by simp only [tg_sub2 (x := s + i) (y := s) (by omega), nI_add, fm_mul]]
        refine he_s 1 (pc' := cond (fx_cb .le (nI ((s + i) - s)) 4) 96 92) (lc' := [(0, .ref 9)]) (stk' := [.ref 9]) (mem' := cm g2 l a b R) (by intro _ _ _; eq_refl) ?_
        by_cases y11 : ((s + i) - s) ≤ 4
        · rw [show (fx_cb .le (nI ((s + i) - s)) 4) = true from cb_leT (a := (s + i) - s) (b := 4) (by omega) (by omega) (by omega)]
          dsimp only [cond]
          refine he_s 2 (pc' := 100) (lc' := [(0, .ref 9)]) (stk' := []) (mem' := cm (fm_u g2 9 6 2) l a b R) (by intro _ _ _; eq_refl) ?_
          have hno : ¬ (s + i < n ∧ sp_dg (T (s + i)) = true) := fun z => by have z2 := sp_dg_i.mp z.2; omega
          obtain rfl : e = s + i := by rw [← he]; exact sp_e_f hno
          have e2 : sp_e sp_dg T n s - s = i := by omega
          refine he_ret ⟨_, cff_u hf (by decide) (by decide), (by exact h4), (by exact h5.trans (by rw [hes])), ?_, (by exact h7), ?_, rfl⟩ (by rfl) (by rfl) (by rfl)
          · rw [fm_ue, if_pos (by omega)]
          · rw [e2]; exact h9
        · rw [show (fx_cb .le (nI ((s + i) - s)) 4) = false from cb_leF (a := (s + i) - s) (b := 4) (by omega) (by omega) (by omega)]
          dsimp only [cond]
          refine he_s 3 (pc' := 100) (lc' := [(0, .ref 9)]) (stk' := []) (mem' := cm (fm_u g2 9 6 4) l a b R) (by intro _ _ _; eq_refl) ?_
          have hno : ¬ (s + i < n ∧ sp_dg (T (s + i)) = true) := fun z => by have z2 := sp_dg_i.mp z.2; omega
          obtain rfl : e = s + i := by rw [← he]; exact sp_e_f hno
          have e2 : sp_e sp_dg T n s - s = i := by omega
          refine he_ret ⟨_, cff_u hf (by decide) (by decide), (by exact h4), (by exact h5.trans (by rw [hes])), ?_, (by exact h7), ?_, rfl⟩ (by rfl) (by rfl) (by rfl)
          · rw [fm_ue, if_neg (by omega)]
          · rw [e2]; exact h9
theorem ha_scanNumber {s : Nat} (hn : n ≤ 900) (hT : ct (a 10) T n) (hs : s ≤ n) (h3 : g 9 3 = nI n) (h4 : g 9 4 = nI s) (h5 : g 9 5 = nI s) (h7 : g 9 7 = -1) : ∃ (v : Option Value) (mem' : fx_M), (fun R1 => ∃ (g' : Nat → Nat → Int32), cff g l g' l ∧ g' 9 4 = nI s ∧ g' 9 5 = nI (sp_e sp_dg T n s) ∧ g' 9 6 = (if sp_e sp_dg T n s ≤ s + 4 then 2 else 4) ∧ g' 9 7 = -1 ∧ g' 9 9 = nI (sp_nb T s (sp_e sp_dg T n s - s)) ∧ R1 = (none, cm g' l a b R)) (v, mem') ∧ hr_T 2 106 [.ref 9] (cm g l a b R) v mem' := by
  refine he_meth (F := fun R1 => ∃ (g' : Nat → Nat → Int32), cff g l g' l ∧ g' 9 4 = nI s ∧ g' 9 5 = nI (sp_e sp_dg T n s) ∧ g' 9 6 = (if sp_e sp_dg T n s ≤ s + 4 then 2 else 4) ∧ g' 9 7 = -1 ∧ g' 9 9 = nI (sp_nb T s (sp_e sp_dg T n s - s)) ∧ R1 = (none, cm g' l a b R)) (M := gk_m106) (by rfl) (by rfl) ?_
  refine he_s 3 (pc' := 5) (lc' := [(0, .ref 9)]) (stk' := []) (mem' := cm (fm_u g 9 9 0) l a b R) (by intro _ _ _; eq_refl) ?_
  exact ha_num hn hT rfl (n - s) 0 rfl hs _ (cff_u cff_rf (by decide) (by decide)) h3 h4 h5 h7 fm_ue rfl
theorem ck_of {g : Nat → Nat → Int32} {l : Nat → Nat → Int64} {s e k : Nat} {w : Int32} (h3 : g 9 3 = nI n) (h4 : g 9 4 = nI s) (h5 : g 9 5 = nI e) (h6 : g 9 6 = nI k) (h7 : g 9 7 = w) (es : s = sp_s T n p) (ee : e = sp_n T n p) (ek : k = sp_k T n p) (ew : w = sp_cw T n p) (h1 : sp_k T n p = 1 → l 9 8 = sp_cn T n p) (h2 : sp_k T n p = 2 → g 9 9 = nI (sp_v T n p)) (h9 : sp_k T n p = 3 → g 9 9 = nI (T (sp_s T n p))) : ck g l T n p := by
  subst es ee ek ew
  exact ⟨h3, h4, h5, h6, h7, h1, h2, h9⟩
theorem ha_sp {s : Nat} (hn : n ≤ 900) (hT : ct (a 10) T n) (hR : cr (b 11)) (hs : sp_s T n p = s) : ∀ (r k : Nat), n - k = r → p ≤ k → k ≤ n → ∀ (g2 : Nat → Nat → Int32), cff g l g2 l → g2 9 3 = nI n → g2 9 5 = nI k → sp_e sp_ws T n k = s → he_R 2 gk_m104 0 [(0, .ref 9)] [] (cm g2 l a b R) (fun R1 => ∃ (g' : Nat → Nat → Int32) (l' : Nat → Nat → Int64), cff g l g' l' ∧ ck g' l' T n p ∧ R1 = (none, cm g' l' a b R)) := by
  intro r
  induction r with
  | zero =>
    intro k hr hpk hk g2 hf h3 h5 he
    refine he_s 4 (pc' := 8) (lc' := [(0, .ref 9)]) (stk' := [.int (g2 9 3), .int (g2 9 5)]) (mem' := cm g2 l a b R) (by intro _ _ _; eq_refl) ?_
    try rw [h5]
    try rw [h3]
    refine he_s 1 (pc' := cond (fx_cb .ge (nI k) (nI n)) 50 11) (lc' := [(0, .ref 9)]) (stk' := []) (mem' := cm g2 l a b R) (by intro _ _ _; eq_refl) ?_
    rw [show (fx_cb .ge (nI k) (nI n)) = true from cb_geT (a := k) (b := n) (by omega) (by omega) (by omega)]
    dsimp only [cond]
    refine he_s 10 (pc' := 68) (lc' := [(0, .ref 9)]) (stk' := [.int (g2 9 5), .ref 9]) (mem' := cm (fm_u (fm_u g2 9 4 (g2 9 5)) 9 7 (-1)) l a b R) (by intro _ _ _; eq_refl) ?_
    try rw [h5]
    refine he_ivV (ha_signAt (k := k) (show (fm_u (fm_u g2 9 4 (nI k)) 9 7 (-1)) 9 3 = nI n from h3) hn (by omega)) (by omega) (by rfl) (by rfl) (by rfl) (by rfl) (by rfl) (by rfl) ?_
    by_cases y2 : k < n
    · rw [if_pos y2]
      rcases hT.2 k y2 with ⟨uc1, ec1⟩ | ⟨uc1, wc1, ec1⟩
      · rw [ec1]
        refine he_s 5 (pc' := 80) (lc' := [(1, .int (nI (T k))), (0, .ref 9)]) (stk' := [.int (g2 9 3), .int (g2 9 5)]) (mem' := cm (fm_u (fm_u g2 9 4 (nI k)) 9 7 (-1)) l a b R) (by intro _ _ _; eq_refl) ?_
        try rw [h5]
        try rw [h3]
        refine he_s 1 (pc' := cond (fx_cb .lt (nI k) (nI n)) 91 83) (lc' := [(1, .int (nI (T k))), (0, .ref 9)]) (stk' := []) (mem' := cm (fm_u (fm_u g2 9 4 (nI k)) 9 7 (-1)) l a b R) (by intro _ _ _; eq_refl) ?_
        rw [show (fx_cb .lt (nI k) (nI n)) = false from cb_ltF (a := k) (b := n) (by omega) (by omega) (by omega)]
        dsimp only [cond]
        refine he_s 4 (pc' := 181) (lc' := [(1, .int (nI (T k))), (0, .ref 9)]) (stk' := []) (mem' := cm (fm_u (fm_u (fm_u g2 9 4 (nI k)) 9 7 (-1)) 9 6 0) l a b R) (by intro _ _ _; eq_refl) ?_
        have hno : ¬ (k < n ∧ sp_ws (T k) = true) := fun z => by have z2 := sp_ws_i.mp z.2; omega
        obtain rfl : s = k := by rw [← he]; exact sp_e_f hno
        have es : s = sp_s T n p := hs.symm
        obtain ⟨t1, t2⟩ := sp_t0 (T := T) (n := n) (p := p) (by omega)
        exact he_ret ⟨_, _, cff_u (cff_u (cff_u hf (by decide) (by decide)) (by decide) (by decide)) (by decide) (by decide), ck_of (s := s) (e := s) (k := 0) (by exact h3) (by rfl) (by exact h5) (by rfl) (by rfl) es (by omega) t1.symm (sp_cw0 (by omega)).symm (fun z => absurd z (by omega)) (fun z => absurd z (by omega)) (fun z => absurd z (by omega)), rfl⟩ (by rfl) (by rfl) (by rfl)
      · refine he_s 5 (pc' := 80) (lc' := [(1, .int (a 10 k)), (0, .ref 9)]) (stk' := [.int (g2 9 3), .int (g2 9 5)]) (mem' := cm (fm_u (fm_u g2 9 4 (nI k)) 9 7 (-1)) l a b R) (by intro _ _ _; eq_refl) ?_
        try rw [h5]
        try rw [h3]
        refine he_s 1 (pc' := cond (fx_cb .lt (nI k) (nI n)) 91 83) (lc' := [(1, .int (a 10 k)), (0, .ref 9)]) (stk' := []) (mem' := cm (fm_u (fm_u g2 9 4 (nI k)) 9 7 (-1)) l a b R) (by intro _ _ _; eq_refl) ?_
        rw [show (fx_cb .lt (nI k) (nI n)) = false from cb_ltF (a := k) (b := n) (by omega) (by omega) (by omega)]
        dsimp only [cond]
        refine he_s 4 (pc' := 181) (lc' := [(1, .int (a 10 k)), (0, .ref 9)]) (stk' := []) (mem' := cm (fm_u (fm_u (fm_u g2 9 4 (nI k)) 9 7 (-1)) 9 6 0) l a b R) (by intro _ _ _; eq_refl) ?_
        have hno : ¬ (k < n ∧ sp_ws (T k) = true) := fun z => by have z2 := sp_ws_i.mp z.2; omega
        obtain rfl : s = k := by rw [← he]; exact sp_e_f hno
        have es : s = sp_s T n p := hs.symm
        obtain ⟨t1, t2⟩ := sp_t0 (T := T) (n := n) (p := p) (by omega)
        exact he_ret ⟨_, _, cff_u (cff_u (cff_u hf (by decide) (by decide)) (by decide) (by decide)) (by decide) (by decide), ck_of (s := s) (e := s) (k := 0) (by exact h3) (by rfl) (by exact h5) (by rfl) (by rfl) es (by omega) t1.symm (sp_cw0 (by omega)).symm (fun z => absurd z (by omega)) (fun z => absurd z (by omega)) (fun z => absurd z (by omega)), rfl⟩ (by rfl) (by rfl) (by rfl)
    · rw [if_neg y2]
      refine he_s 5 (pc' := 80) (lc' := [(1, .int (-1)), (0, .ref 9)]) (stk' := [.int (g2 9 3), .int (g2 9 5)]) (mem' := cm (fm_u (fm_u g2 9 4 (nI k)) 9 7 (-1)) l a b R) (by intro _ _ _; eq_refl) ?_
      try rw [h5]
      try rw [h3]
      refine he_s 1 (pc' := cond (fx_cb .lt (nI k) (nI n)) 91 83) (lc' := [(1, .int (-1)), (0, .ref 9)]) (stk' := []) (mem' := cm (fm_u (fm_u g2 9 4 (nI k)) 9 7 (-1)) l a b R) (by intro _ _ _; eq_refl) ?_
      rw [show (fx_cb .lt (nI k) (nI n)) = false from cb_ltF (a := k) (b := n) (by omega) (by omega) (by omega)]
      dsimp only [cond]
      refine he_s 4 (pc' := 181) (lc' := [(1, .int (-1)), (0, .ref 9)]) (stk' := []) (mem' := cm (fm_u (fm_u (fm_u g2 9 4 (nI k)) 9 7 (-1)) 9 6 0) l a b R) (by intro _ _ _; eq_refl) ?_
      have hno : ¬ (k < n ∧ sp_ws (T k) = true) := fun z => by have z2 := sp_ws_i.mp z.2; omega
      obtain rfl : s = k := by rw [← he]; exact sp_e_f hno
      have es : s = sp_s T n p := hs.symm
      obtain ⟨t1, t2⟩ := sp_t0 (T := T) (n := n) (p := p) (by omega)
      exact he_ret ⟨_, _, cff_u (cff_u (cff_u hf (by decide) (by decide)) (by decide) (by decide)) (by decide) (by decide), ck_of (s := s) (e := s) (k := 0) (by exact h3) (by rfl) (by exact h5) (by rfl) (by rfl) es (by omega) t1.symm (sp_cw0 (by omega)).symm (fun z => absurd z (by omega)) (fun z => absurd z (by omega)) (fun z => absurd z (by omega)), rfl⟩ (by rfl) (by rfl) (by rfl)
  | succ r ih =>
    intro k hr hpk hk g2 hf h3 h5 he
    refine he_s 4 (pc' := 8) (lc' := [(0, .ref 9)]) (stk' := [.int (g2 9 3), .int (g2 9 5)]) (mem' := cm g2 l a b R) (by intro _ _ _; eq_refl) ?_
    try rw [h5]
    try rw [h3]
    refine he_s 1 (pc' := cond (fx_cb .ge (nI k) (nI n)) 50 11) (lc' := [(0, .ref 9)]) (stk' := []) (mem' := cm g2 l a b R) (by intro _ _ _; eq_refl) ?_
    by_cases y3 : n ≤ k
    · rw [show (fx_cb .ge (nI k) (nI n)) = true from cb_geT (a := k) (b := n) (by omega) (by omega) (by omega)]
      dsimp only [cond]
      refine he_s 10 (pc' := 68) (lc' := [(0, .ref 9)]) (stk' := [.int (g2 9 5), .ref 9]) (mem' := cm (fm_u (fm_u g2 9 4 (g2 9 5)) 9 7 (-1)) l a b R) (by intro _ _ _; eq_refl) ?_
      try rw [h5]
      refine he_ivV (ha_signAt (k := k) (show (fm_u (fm_u g2 9 4 (nI k)) 9 7 (-1)) 9 3 = nI n from h3) hn (by omega)) (by omega) (by rfl) (by rfl) (by rfl) (by rfl) (by rfl) (by rfl) ?_
      rw [if_neg (show ¬ k < n from (by omega))]
      refine he_s 5 (pc' := 80) (lc' := [(1, .int (-1)), (0, .ref 9)]) (stk' := [.int (g2 9 3), .int (g2 9 5)]) (mem' := cm (fm_u (fm_u g2 9 4 (nI k)) 9 7 (-1)) l a b R) (by intro _ _ _; eq_refl) ?_
      try rw [h5]
      try rw [h3]
      refine he_s 1 (pc' := cond (fx_cb .lt (nI k) (nI n)) 91 83) (lc' := [(1, .int (-1)), (0, .ref 9)]) (stk' := []) (mem' := cm (fm_u (fm_u g2 9 4 (nI k)) 9 7 (-1)) l a b R) (by intro _ _ _; eq_refl) ?_
      by_cases y5 : k < n
      · rw [show (fx_cb .lt (nI k) (nI n)) = true from cb_ltT (a := k) (b := n) (by omega) (by omega) (by omega)]
        dsimp only [cond]
        refine he_s 2 (pc' := 94) (lc' := [(1, .int (-1)), (0, .ref 9)]) (stk' := [.int 97, .int (-1)]) (mem' := cm (fm_u (fm_u g2 9 4 (nI k)) 9 7 (-1)) l a b R) (by intro _ _ _; eq_refl) ?_
        refine he_s 1 (pc' := cond (fx_cb .lt (-1) 97) 110 97) (lc' := [(1, .int (-1)), (0, .ref 9)]) (stk' := []) (mem' := cm (fm_u (fm_u g2 9 4 (nI k)) 9 7 (-1)) l a b R) (by intro _ _ _; eq_refl) ?_
        rw [show (fx_cb .lt (-1) 97) = true from by decide]
        dsimp only [cond]
        refine he_s 2 (pc' := 113) (lc' := [(1, .int (-1)), (0, .ref 9)]) (stk' := [.int 48, .int (-1)]) (mem' := cm (fm_u (fm_u g2 9 4 (nI k)) 9 7 (-1)) l a b R) (by intro _ _ _; eq_refl) ?_
        refine he_s 1 (pc' := cond (fx_cb .lt (-1) 48) 129 116) (lc' := [(1, .int (-1)), (0, .ref 9)]) (stk' := []) (mem' := cm (fm_u (fm_u g2 9 4 (nI k)) 9 7 (-1)) l a b R) (by intro _ _ _; eq_refl) ?_
        rw [show (fx_cb .lt (-1) 48) = true from by decide]
        dsimp only [cond]
        refine he_s 2 (pc' := 132) (lc' := [(1, .int (-1)), (0, .ref 9)]) (stk' := [.int 59, .int (-1)]) (mem' := cm (fm_u (fm_u g2 9 4 (nI k)) 9 7 (-1)) l a b R) (by intro _ _ _; eq_refl) ?_
        refine he_s 1 (pc' := cond (fx_cb .eq (-1) 59) 153 135) (lc' := [(1, .int (-1)), (0, .ref 9)]) (stk' := []) (mem' := cm (fm_u (fm_u g2 9 4 (nI k)) 9 7 (-1)) l a b R) (by intro _ _ _; eq_refl) ?_
        rw [show (fx_cb .eq (-1) 59) = false from by decide]
        dsimp only [cond]
        refine he_s 2 (pc' := 138) (lc' := [(1, .int (-1)), (0, .ref 9)]) (stk' := [.int 60, .int (-1)]) (mem' := cm (fm_u (fm_u g2 9 4 (nI k)) 9 7 (-1)) l a b R) (by intro _ _ _; eq_refl) ?_
        refine he_s 1 (pc' := cond (fx_cb .eq (-1) 60) 153 141) (lc' := [(1, .int (-1)), (0, .ref 9)]) (stk' := []) (mem' := cm (fm_u (fm_u g2 9 4 (nI k)) 9 7 (-1)) l a b R) (by intro _ _ _; eq_refl) ?_
        rw [show (fx_cb .eq (-1) 60) = false from by decide]
        dsimp only [cond]
        refine he_s 2 (pc' := 144) (lc' := [(1, .int (-1)), (0, .ref 9)]) (stk' := [.int 62, .int (-1)]) (mem' := cm (fm_u (fm_u g2 9 4 (nI k)) 9 7 (-1)) l a b R) (by intro _ _ _; eq_refl) ?_
        refine he_s 1 (pc' := cond (fx_cb .eq (-1) 62) 153 147) (lc' := [(1, .int (-1)), (0, .ref 9)]) (stk' := []) (mem' := cm (fm_u (fm_u g2 9 4 (nI k)) 9 7 (-1)) l a b R) (by intro _ _ _; eq_refl) ?_
        rw [show (fx_cb .eq (-1) 62) = false from by decide]
        dsimp only [cond]
        refine he_s 2 (pc' := 150) (lc' := [(1, .int (-1)), (0, .ref 9)]) (stk' := [.int 61, .int (-1)]) (mem' := cm (fm_u (fm_u g2 9 4 (nI k)) 9 7 (-1)) l a b R) (by intro _ _ _; eq_refl) ?_
        refine he_s 1 (pc' := cond (fx_cb .ne (-1) 61) 176 153) (lc' := [(1, .int (-1)), (0, .ref 9)]) (stk' := []) (mem' := cm (fm_u (fm_u g2 9 4 (nI k)) 9 7 (-1)) l a b R) (by intro _ _ _; eq_refl) ?_
        rw [show (fx_cb .ne (-1) 61) = true from by decide]
        dsimp only [cond]
        refine he_s 3 (pc' := 181) (lc' := [(1, .int (-1)), (0, .ref 9)]) (stk' := []) (mem' := cm (fm_u (fm_u (fm_u g2 9 4 (nI k)) 9 7 (-1)) 9 6 4) l a b R) (by intro _ _ _; eq_refl) ?_
        have hno : ¬ (k < n ∧ sp_ws (T k) = true) := fun z => by have z2 := sp_ws_i.mp z.2; omega
        obtain rfl : s = k := by rw [← he]; exact sp_e_f hno
        have es : s = sp_s T n p := hs.symm
        obtain ⟨t1, t2⟩ := sp_t4 (T := T) (n := n) (p := p) (by omega) (fun z => by have z2 := sp_sm_i.mp z; rw [← es] at z2; omega) (fun z => by have z2 := sp_dg_i.mp z; rw [← es] at z2; omega) (fun z => by have z2 := sp_sg_i.mp z; rw [← es] at z2; omega)
        exact he_ret ⟨_, _, cff_u (cff_u (cff_u hf (by decide) (by decide)) (by decide) (by decide)) (by decide) (by decide), ck_of (s := s) (e := s) (k := 4) (by exact h3) (by rfl) (by exact h5) (by rfl) (by rfl) es (by omega) t1.symm (sp_cw0 (by omega)).symm (fun z => absurd z (by omega)) (fun z => absurd z (by omega)) (fun z => absurd z (by omega)), rfl⟩ (by rfl) (by rfl) (by rfl)
      · rw [show (fx_cb .lt (nI k) (nI n)) = false from cb_ltF (a := k) (b := n) (by omega) (by omega) (by omega)]
        dsimp only [cond]
        refine he_s 4 (pc' := 181) (lc' := [(1, .int (-1)), (0, .ref 9)]) (stk' := []) (mem' := cm (fm_u (fm_u (fm_u g2 9 4 (nI k)) 9 7 (-1)) 9 6 0) l a b R) (by intro _ _ _; eq_refl) ?_
        have hno : ¬ (k < n ∧ sp_ws (T k) = true) := fun z => by have z2 := sp_ws_i.mp z.2; omega
        obtain rfl : s = k := by rw [← he]; exact sp_e_f hno
        have es : s = sp_s T n p := hs.symm
        obtain ⟨t1, t2⟩ := sp_t0 (T := T) (n := n) (p := p) (by omega)
        exact he_ret ⟨_, _, cff_u (cff_u (cff_u hf (by decide) (by decide)) (by decide) (by decide)) (by decide) (by decide), ck_of (s := s) (e := s) (k := 0) (by exact h3) (by rfl) (by exact h5) (by rfl) (by rfl) es (by omega) t1.symm (sp_cw0 (by omega)).symm (fun z => absurd z (by omega)) (fun z => absurd z (by omega)) (fun z => absurd z (by omega)), rfl⟩ (by rfl) (by rfl) (by rfl)
    · rw [show (fx_cb .ge (nI k) (nI n)) = false from cb_geF (a := k) (b := n) (by omega) (by omega) (by omega)]
      dsimp only [cond]
      refine he_s 3 (pc' := 16) (lc' := [(0, .ref 9)]) (stk' := [.int (g2 9 5), .ref 9]) (mem' := cm g2 l a b R) (by intro _ _ _; eq_refl) ?_
      try rw [h5]
      refine he_ivV (ha_signAt (k := k) (show g2 9 3 = nI n from h3) hn (by omega)) (by omega) (by rfl) (by rfl) (by rfl) (by rfl) (by rfl) (by rfl) ?_
      rw [if_pos (show k < n from (by omega))]
      rcases hT.2 k (by omega) with ⟨uc6, ec6⟩ | ⟨uc6, wc6, ec6⟩
      · rw [ec6]
        refine he_s 1 (pc' := 21) (lc' := [(0, .ref 9)]) (stk' := [.int 10, .int (nI (T k))]) (mem' := cm g2 l a b R) (by intro _ _ _; eq_refl) ?_
        refine he_s 1 (pc' := cond (fx_cb .eq (nI (T k)) 10) 37 24) (lc' := [(0, .ref 9)]) (stk' := []) (mem' := cm g2 l a b R) (by intro _ _ _; eq_refl) ?_
        by_cases y7 : (T k) = 10
        · rw [show (fx_cb .eq (nI (T k)) 10) = true from cb_eqT (a := (T k)) (b := 10) (by omega) (by omega) (by omega)]
          dsimp only [cond]
          refine he_s 7 (pc' := 0) (lc' := [(0, .ref 9)]) (stk' := []) (mem' := cm (fm_u g2 9 5 ((g2 9 5) + 1)) l a b R) (by intro _ _ _; eq_refl) ?_
          try rw [h5]
          rw [show ((nI k) + 1 : Int32) = nI (k + 1) from by simp only [show (1 : Int32) = nI 1 from rfl, nI_add, fm_mul]]
          have hsm : sp_ws (T k) = true := sp_ws_i.mpr (by omega)
          refine ih (k + 1) (by omega) (by omega) (by omega) _ (cff_u hf (by decide) (by decide)) h3 rfl ?_
          rw [← he]; exact (sp_e_t (by omega) hsm).symm
        · rw [show (fx_cb .eq (nI (T k)) 10) = false from cb_eqF (a := (T k)) (b := 10) (by omega) (by omega) (by omega)]
          dsimp only [cond]
          refine he_s 3 (pc' := 29) (lc' := [(0, .ref 9)]) (stk' := [.int (g2 9 5), .ref 9]) (mem' := cm g2 l a b R) (by intro _ _ _; eq_refl) ?_
          try rw [h5]
          refine he_ivV (ha_signAt (k := k) (show g2 9 3 = nI n from h3) hn (by omega)) (by omega) (by rfl) (by rfl) (by rfl) (by rfl) (by rfl) (by rfl) ?_
          rw [if_pos (show k < n from (by omega)), ec6]
          refine he_s 1 (pc' := 34) (lc' := [(0, .ref 9)]) (stk' := [.int 32, .int (nI (T k))]) (mem' := cm g2 l a b R) (by intro _ _ _; eq_refl) ?_
          refine he_s 1 (pc' := cond (fx_cb .ne (nI (T k)) 32) 50 37) (lc' := [(0, .ref 9)]) (stk' := []) (mem' := cm g2 l a b R) (by intro _ _ _; eq_refl) ?_
          by_cases y9 : (T k) = 32
          · rw [show (fx_cb .ne (nI (T k)) 32) = false from cb_neF (a := (T k)) (b := 32) (by omega) (by omega) (by omega)]
            dsimp only [cond]
            refine he_s 7 (pc' := 0) (lc' := [(0, .ref 9)]) (stk' := []) (mem' := cm (fm_u g2 9 5 ((g2 9 5) + 1)) l a b R) (by intro _ _ _; eq_refl) ?_
            try rw [h5]
            rw [show ((nI k) + 1 : Int32) = nI (k + 1) from by simp only [show (1 : Int32) = nI 1 from rfl, nI_add, fm_mul]]
            have hsm : sp_ws (T k) = true := sp_ws_i.mpr (by omega)
            refine ih (k + 1) (by omega) (by omega) (by omega) _ (cff_u hf (by decide) (by decide)) h3 rfl ?_
            rw [← he]; exact (sp_e_t (by omega) hsm).symm
          · rw [show (fx_cb .ne (nI (T k)) 32) = true from cb_neT (a := (T k)) (b := 32) (by omega) (by omega) (by omega)]
            dsimp only [cond]
            refine he_s 10 (pc' := 68) (lc' := [(0, .ref 9)]) (stk' := [.int (g2 9 5), .ref 9]) (mem' := cm (fm_u (fm_u g2 9 4 (g2 9 5)) 9 7 (-1)) l a b R) (by intro _ _ _; eq_refl) ?_
            try rw [h5]
            refine he_ivV (ha_signAt (k := k) (show (fm_u (fm_u g2 9 4 (nI k)) 9 7 (-1)) 9 3 = nI n from h3) hn (by omega)) (by omega) (by rfl) (by rfl) (by rfl) (by rfl) (by rfl) (by rfl) ?_
            rw [if_pos (show k < n from (by omega)), ec6]
            refine he_s 5 (pc' := 80) (lc' := [(1, .int (nI (T k))), (0, .ref 9)]) (stk' := [.int (g2 9 3), .int (g2 9 5)]) (mem' := cm (fm_u (fm_u g2 9 4 (nI k)) 9 7 (-1)) l a b R) (by intro _ _ _; eq_refl) ?_
            try rw [h5]
            try rw [h3]
            refine he_s 1 (pc' := cond (fx_cb .lt (nI k) (nI n)) 91 83) (lc' := [(1, .int (nI (T k))), (0, .ref 9)]) (stk' := []) (mem' := cm (fm_u (fm_u g2 9 4 (nI k)) 9 7 (-1)) l a b R) (by intro _ _ _; eq_refl) ?_
            by_cases y11 : k < n
            · rw [show (fx_cb .lt (nI k) (nI n)) = true from cb_ltT (a := k) (b := n) (by omega) (by omega) (by omega)]
              dsimp only [cond]
              refine he_s 2 (pc' := 94) (lc' := [(1, .int (nI (T k))), (0, .ref 9)]) (stk' := [.int 97, .int (nI (T k))]) (mem' := cm (fm_u (fm_u g2 9 4 (nI k)) 9 7 (-1)) l a b R) (by intro _ _ _; eq_refl) ?_
              refine he_s 1 (pc' := cond (fx_cb .lt (nI (T k)) 97) 110 97) (lc' := [(1, .int (nI (T k))), (0, .ref 9)]) (stk' := []) (mem' := cm (fm_u (fm_u g2 9 4 (nI k)) 9 7 (-1)) l a b R) (by intro _ _ _; eq_refl) ?_
              by_cases y12 : (T k) < 97
              · rw [show (fx_cb .lt (nI (T k)) 97) = true from cb_ltT (a := (T k)) (b := 97) (by omega) (by omega) (by omega)]
                dsimp only [cond]
                refine he_s 2 (pc' := 113) (lc' := [(1, .int (nI (T k))), (0, .ref 9)]) (stk' := [.int 48, .int (nI (T k))]) (mem' := cm (fm_u (fm_u g2 9 4 (nI k)) 9 7 (-1)) l a b R) (by intro _ _ _; eq_refl) ?_
                refine he_s 1 (pc' := cond (fx_cb .lt (nI (T k)) 48) 129 116) (lc' := [(1, .int (nI (T k))), (0, .ref 9)]) (stk' := []) (mem' := cm (fm_u (fm_u g2 9 4 (nI k)) 9 7 (-1)) l a b R) (by intro _ _ _; eq_refl) ?_
                by_cases y13 : (T k) < 48
                · rw [show (fx_cb .lt (nI (T k)) 48) = true from cb_ltT (a := (T k)) (b := 48) (by omega) (by omega) (by omega)]
                  dsimp only [cond]
                  refine he_s 2 (pc' := 132) (lc' := [(1, .int (nI (T k))), (0, .ref 9)]) (stk' := [.int 59, .int (nI (T k))]) (mem' := cm (fm_u (fm_u g2 9 4 (nI k)) 9 7 (-1)) l a b R) (by intro _ _ _; eq_refl) ?_
                  refine he_s 1 (pc' := cond (fx_cb .eq (nI (T k)) 59) 153 135) (lc' := [(1, .int (nI (T k))), (0, .ref 9)]) (stk' := []) (mem' := cm (fm_u (fm_u g2 9 4 (nI k)) 9 7 (-1)) l a b R) (by intro _ _ _; eq_refl) ?_
                  rw [show (fx_cb .eq (nI (T k)) 59) = false from cb_eqF (a := (T k)) (b := 59) (by omega) (by omega) (by omega)]
                  dsimp only [cond]
                  refine he_s 2 (pc' := 138) (lc' := [(1, .int (nI (T k))), (0, .ref 9)]) (stk' := [.int 60, .int (nI (T k))]) (mem' := cm (fm_u (fm_u g2 9 4 (nI k)) 9 7 (-1)) l a b R) (by intro _ _ _; eq_refl) ?_
                  refine he_s 1 (pc' := cond (fx_cb .eq (nI (T k)) 60) 153 141) (lc' := [(1, .int (nI (T k))), (0, .ref 9)]) (stk' := []) (mem' := cm (fm_u (fm_u g2 9 4 (nI k)) 9 7 (-1)) l a b R) (by intro _ _ _; eq_refl) ?_
                  rw [show (fx_cb .eq (nI (T k)) 60) = false from cb_eqF (a := (T k)) (b := 60) (by omega) (by omega) (by omega)]
                  dsimp only [cond]
                  refine he_s 2 (pc' := 144) (lc' := [(1, .int (nI (T k))), (0, .ref 9)]) (stk' := [.int 62, .int (nI (T k))]) (mem' := cm (fm_u (fm_u g2 9 4 (nI k)) 9 7 (-1)) l a b R) (by intro _ _ _; eq_refl) ?_
                  refine he_s 1 (pc' := cond (fx_cb .eq (nI (T k)) 62) 153 147) (lc' := [(1, .int (nI (T k))), (0, .ref 9)]) (stk' := []) (mem' := cm (fm_u (fm_u g2 9 4 (nI k)) 9 7 (-1)) l a b R) (by intro _ _ _; eq_refl) ?_
                  rw [show (fx_cb .eq (nI (T k)) 62) = false from cb_eqF (a := (T k)) (b := 62) (by omega) (by omega) (by omega)]
                  dsimp only [cond]
                  refine he_s 2 (pc' := 150) (lc' := [(1, .int (nI (T k))), (0, .ref 9)]) (stk' := [.int 61, .int (nI (T k))]) (mem' := cm (fm_u (fm_u g2 9 4 (nI k)) 9 7 (-1)) l a b R) (by intro _ _ _; eq_refl) ?_
                  refine he_s 1 (pc' := cond (fx_cb .ne (nI (T k)) 61) 176 153) (lc' := [(1, .int (nI (T k))), (0, .ref 9)]) (stk' := []) (mem' := cm (fm_u (fm_u g2 9 4 (nI k)) 9 7 (-1)) l a b R) (by intro _ _ _; eq_refl) ?_
                  rw [show (fx_cb .ne (nI (T k)) 61) = true from cb_neT (a := (T k)) (b := 61) (by omega) (by omega) (by omega)]
                  dsimp only [cond]
                  refine he_s 3 (pc' := 181) (lc' := [(1, .int (nI (T k))), (0, .ref 9)]) (stk' := []) (mem' := cm (fm_u (fm_u (fm_u g2 9 4 (nI k)) 9 7 (-1)) 9 6 4) l a b R) (by intro _ _ _; eq_refl) ?_
                  have hno : ¬ (k < n ∧ sp_ws (T k) = true) := fun z => by have z2 := sp_ws_i.mp z.2; omega
                  obtain rfl : s = k := by rw [← he]; exact sp_e_f hno
                  have es : s = sp_s T n p := hs.symm
                  obtain ⟨t1, t2⟩ := sp_t4 (T := T) (n := n) (p := p) (by omega) (fun z => by have z2 := sp_sm_i.mp z; rw [← es] at z2; omega) (fun z => by have z2 := sp_dg_i.mp z; rw [← es] at z2; omega) (fun z => by have z2 := sp_sg_i.mp z; rw [← es] at z2; omega)
                  exact he_ret ⟨_, _, cff_u (cff_u (cff_u hf (by decide) (by decide)) (by decide) (by decide)) (by decide) (by decide), ck_of (s := s) (e := s) (k := 4) (by exact h3) (by rfl) (by exact h5) (by rfl) (by rfl) es (by omega) t1.symm (sp_cw0 (by omega)).symm (fun z => absurd z (by omega)) (fun z => absurd z (by omega)) (fun z => absurd z (by omega)), rfl⟩ (by rfl) (by rfl) (by rfl)
                · rw [show (fx_cb .lt (nI (T k)) 48) = false from cb_ltF (a := (T k)) (b := 48) (by omega) (by omega) (by omega)]
                  dsimp only [cond]
                  refine he_s 2 (pc' := 119) (lc' := [(1, .int (nI (T k))), (0, .ref 9)]) (stk' := [.int 57, .int (nI (T k))]) (mem' := cm (fm_u (fm_u g2 9 4 (nI k)) 9 7 (-1)) l a b R) (by intro _ _ _; eq_refl) ?_
                  refine he_s 1 (pc' := cond (fx_cb .gt (nI (T k)) 57) 129 122) (lc' := [(1, .int (nI (T k))), (0, .ref 9)]) (stk' := []) (mem' := cm (fm_u (fm_u g2 9 4 (nI k)) 9 7 (-1)) l a b R) (by intro _ _ _; eq_refl) ?_
                  by_cases y14 : 57 < (T k)
                  · rw [show (fx_cb .gt (nI (T k)) 57) = true from cb_gtT (a := (T k)) (b := 57) (by omega) (by omega) (by omega)]
                    dsimp only [cond]
                    refine he_s 2 (pc' := 132) (lc' := [(1, .int (nI (T k))), (0, .ref 9)]) (stk' := [.int 59, .int (nI (T k))]) (mem' := cm (fm_u (fm_u g2 9 4 (nI k)) 9 7 (-1)) l a b R) (by intro _ _ _; eq_refl) ?_
                    refine he_s 1 (pc' := cond (fx_cb .eq (nI (T k)) 59) 153 135) (lc' := [(1, .int (nI (T k))), (0, .ref 9)]) (stk' := []) (mem' := cm (fm_u (fm_u g2 9 4 (nI k)) 9 7 (-1)) l a b R) (by intro _ _ _; eq_refl) ?_
                    by_cases y15 : (T k) = 59
                    · rw [show (fx_cb .eq (nI (T k)) 59) = true from cb_eqT (a := (T k)) (b := 59) (by omega) (by omega) (by omega)]
                      dsimp only [cond]
                      refine he_s 13 (pc' := 181) (lc' := [(1, .int (nI (T k))), (0, .ref 9)]) (stk' := []) (mem' := cm (fm_u (fm_u (fm_u (fm_u (fm_u g2 9 4 (nI k)) 9 7 (-1)) 9 6 3) 9 9 (nI (T k))) 9 5 ((g2 9 5) + 1)) l a b R) (by intro _ _ _; eq_refl) ?_
                      try rw [h5]
                      rw [show ((nI k) + 1 : Int32) = nI (k + 1) from by simp only [show (1 : Int32) = nI 1 from rfl, nI_add, fm_mul]]
                      have hno : ¬ (k < n ∧ sp_ws (T k) = true) := fun z => by have z2 := sp_ws_i.mp z.2; omega
                      obtain rfl : s = k := by rw [← he]; exact sp_e_f hno
                      have es : s = sp_s T n p := hs.symm
                      obtain ⟨t1, t2⟩ := sp_t3 (T := T) (n := n) (p := p) (by omega) (by rw [← es]; exact sp_sg_i.mpr ⟨by omega, by omega⟩)
                      exact he_ret ⟨_, _, cff_u (cff_u (cff_u (cff_u (cff_u hf (by decide) (by decide)) (by decide) (by decide)) (by decide) (by decide)) (by decide) (by decide)) (by decide) (by decide), ck_of (s := s) (e := s + 1) (k := 3) (by exact h3) (by rfl) (by rfl) (by rfl) (by rfl) es (by omega) t1.symm (sp_cw0 (by omega)).symm (fun z => absurd z (by omega)) (fun z => absurd z (by omega)) (fun _ => by rw [← es]; rfl), rfl⟩ (by rfl) (by rfl) (by rfl)
                    · rw [show (fx_cb .eq (nI (T k)) 59) = false from cb_eqF (a := (T k)) (b := 59) (by omega) (by omega) (by omega)]
                      dsimp only [cond]
                      refine he_s 2 (pc' := 138) (lc' := [(1, .int (nI (T k))), (0, .ref 9)]) (stk' := [.int 60, .int (nI (T k))]) (mem' := cm (fm_u (fm_u g2 9 4 (nI k)) 9 7 (-1)) l a b R) (by intro _ _ _; eq_refl) ?_
                      refine he_s 1 (pc' := cond (fx_cb .eq (nI (T k)) 60) 153 141) (lc' := [(1, .int (nI (T k))), (0, .ref 9)]) (stk' := []) (mem' := cm (fm_u (fm_u g2 9 4 (nI k)) 9 7 (-1)) l a b R) (by intro _ _ _; eq_refl) ?_
                      by_cases y16 : (T k) = 60
                      · rw [show (fx_cb .eq (nI (T k)) 60) = true from cb_eqT (a := (T k)) (b := 60) (by omega) (by omega) (by omega)]
                        dsimp only [cond]
                        refine he_s 13 (pc' := 181) (lc' := [(1, .int (nI (T k))), (0, .ref 9)]) (stk' := []) (mem' := cm (fm_u (fm_u (fm_u (fm_u (fm_u g2 9 4 (nI k)) 9 7 (-1)) 9 6 3) 9 9 (nI (T k))) 9 5 ((g2 9 5) + 1)) l a b R) (by intro _ _ _; eq_refl) ?_
                        try rw [h5]
                        rw [show ((nI k) + 1 : Int32) = nI (k + 1) from by simp only [show (1 : Int32) = nI 1 from rfl, nI_add, fm_mul]]
                        have hno : ¬ (k < n ∧ sp_ws (T k) = true) := fun z => by have z2 := sp_ws_i.mp z.2; omega
                        obtain rfl : s = k := by rw [← he]; exact sp_e_f hno
                        have es : s = sp_s T n p := hs.symm
                        obtain ⟨t1, t2⟩ := sp_t3 (T := T) (n := n) (p := p) (by omega) (by rw [← es]; exact sp_sg_i.mpr ⟨by omega, by omega⟩)
                        exact he_ret ⟨_, _, cff_u (cff_u (cff_u (cff_u (cff_u hf (by decide) (by decide)) (by decide) (by decide)) (by decide) (by decide)) (by decide) (by decide)) (by decide) (by decide), ck_of (s := s) (e := s + 1) (k := 3) (by exact h3) (by rfl) (by rfl) (by rfl) (by rfl) es (by omega) t1.symm (sp_cw0 (by omega)).symm (fun z => absurd z (by omega)) (fun z => absurd z (by omega)) (fun _ => by rw [← es]; rfl), rfl⟩ (by rfl) (by rfl) (by rfl)
                      · rw [show (fx_cb .eq (nI (T k)) 60) = false from cb_eqF (a := (T k)) (b := 60) (by omega) (by omega) (by omega)]
                        dsimp only [cond]
                        refine he_s 2 (pc' := 144) (lc' := [(1, .int (nI (T k))), (0, .ref 9)]) (stk' := [.int 62, .int (nI (T k))]) (mem' := cm (fm_u (fm_u g2 9 4 (nI k)) 9 7 (-1)) l a b R) (by intro _ _ _; eq_refl) ?_
                        refine he_s 1 (pc' := cond (fx_cb .eq (nI (T k)) 62) 153 147) (lc' := [(1, .int (nI (T k))), (0, .ref 9)]) (stk' := []) (mem' := cm (fm_u (fm_u g2 9 4 (nI k)) 9 7 (-1)) l a b R) (by intro _ _ _; eq_refl) ?_
                        by_cases y17 : (T k) = 62
                        · rw [show (fx_cb .eq (nI (T k)) 62) = true from cb_eqT (a := (T k)) (b := 62) (by omega) (by omega) (by omega)]
                          dsimp only [cond]
                          refine he_s 13 (pc' := 181) (lc' := [(1, .int (nI (T k))), (0, .ref 9)]) (stk' := []) (mem' := cm (fm_u (fm_u (fm_u (fm_u (fm_u g2 9 4 (nI k)) 9 7 (-1)) 9 6 3) 9 9 (nI (T k))) 9 5 ((g2 9 5) + 1)) l a b R) (by intro _ _ _; eq_refl) ?_
                          try rw [h5]
                          rw [show ((nI k) + 1 : Int32) = nI (k + 1) from by simp only [show (1 : Int32) = nI 1 from rfl, nI_add, fm_mul]]
                          have hno : ¬ (k < n ∧ sp_ws (T k) = true) := fun z => by have z2 := sp_ws_i.mp z.2; omega
                          obtain rfl : s = k := by rw [← he]; exact sp_e_f hno
                          have es : s = sp_s T n p := hs.symm
                          obtain ⟨t1, t2⟩ := sp_t3 (T := T) (n := n) (p := p) (by omega) (by rw [← es]; exact sp_sg_i.mpr ⟨by omega, by omega⟩)
                          exact he_ret ⟨_, _, cff_u (cff_u (cff_u (cff_u (cff_u hf (by decide) (by decide)) (by decide) (by decide)) (by decide) (by decide)) (by decide) (by decide)) (by decide) (by decide), ck_of (s := s) (e := s + 1) (k := 3) (by exact h3) (by rfl) (by rfl) (by rfl) (by rfl) es (by omega) t1.symm (sp_cw0 (by omega)).symm (fun z => absurd z (by omega)) (fun z => absurd z (by omega)) (fun _ => by rw [← es]; rfl), rfl⟩ (by rfl) (by rfl) (by rfl)
                        · rw [show (fx_cb .eq (nI (T k)) 62) = false from cb_eqF (a := (T k)) (b := 62) (by omega) (by omega) (by omega)]
                          dsimp only [cond]
                          refine he_s 2 (pc' := 150) (lc' := [(1, .int (nI (T k))), (0, .ref 9)]) (stk' := [.int 61, .int (nI (T k))]) (mem' := cm (fm_u (fm_u g2 9 4 (nI k)) 9 7 (-1)) l a b R) (by intro _ _ _; eq_refl) ?_
                          refine he_s 1 (pc' := cond (fx_cb .ne (nI (T k)) 61) 176 153) (lc' := [(1, .int (nI (T k))), (0, .ref 9)]) (stk' := []) (mem' := cm (fm_u (fm_u g2 9 4 (nI k)) 9 7 (-1)) l a b R) (by intro _ _ _; eq_refl) ?_
                          by_cases y18 : (T k) = 61
                          · rw [show (fx_cb .ne (nI (T k)) 61) = false from cb_neF (a := (T k)) (b := 61) (by omega) (by omega) (by omega)]
                            dsimp only [cond]
                            refine he_s 13 (pc' := 181) (lc' := [(1, .int (nI (T k))), (0, .ref 9)]) (stk' := []) (mem' := cm (fm_u (fm_u (fm_u (fm_u (fm_u g2 9 4 (nI k)) 9 7 (-1)) 9 6 3) 9 9 (nI (T k))) 9 5 ((g2 9 5) + 1)) l a b R) (by intro _ _ _; eq_refl) ?_
                            try rw [h5]
                            rw [show ((nI k) + 1 : Int32) = nI (k + 1) from by simp only [show (1 : Int32) = nI 1 from rfl, nI_add, fm_mul]]
                            have hno : ¬ (k < n ∧ sp_ws (T k) = true) := fun z => by have z2 := sp_ws_i.mp z.2; omega
                            obtain rfl : s = k := by rw [← he]; exact sp_e_f hno
                            have es : s = sp_s T n p := hs.symm
                            obtain ⟨t1, t2⟩ := sp_t3 (T := T) (n := n) (p := p) (by omega) (by rw [← es]; exact sp_sg_i.mpr ⟨by omega, by omega⟩)
                            exact he_ret ⟨_, _, cff_u (cff_u (cff_u (cff_u (cff_u hf (by decide) (by decide)) (by decide) (by decide)) (by decide) (by decide)) (by decide) (by decide)) (by decide) (by decide), ck_of (s := s) (e := s + 1) (k := 3) (by exact h3) (by rfl) (by rfl) (by rfl) (by rfl) es (by omega) t1.symm (sp_cw0 (by omega)).symm (fun z => absurd z (by omega)) (fun z => absurd z (by omega)) (fun _ => by rw [← es]; rfl), rfl⟩ (by rfl) (by rfl) (by rfl)
                          · rw [show (fx_cb .ne (nI (T k)) 61) = true from cb_neT (a := (T k)) (b := 61) (by omega) (by omega) (by omega)]
                            dsimp only [cond]
                            refine he_s 3 (pc' := 181) (lc' := [(1, .int (nI (T k))), (0, .ref 9)]) (stk' := []) (mem' := cm (fm_u (fm_u (fm_u g2 9 4 (nI k)) 9 7 (-1)) 9 6 4) l a b R) (by intro _ _ _; eq_refl) ?_
                            have hno : ¬ (k < n ∧ sp_ws (T k) = true) := fun z => by have z2 := sp_ws_i.mp z.2; omega
                            obtain rfl : s = k := by rw [← he]; exact sp_e_f hno
                            have es : s = sp_s T n p := hs.symm
                            obtain ⟨t1, t2⟩ := sp_t4 (T := T) (n := n) (p := p) (by omega) (fun z => by have z2 := sp_sm_i.mp z; rw [← es] at z2; omega) (fun z => by have z2 := sp_dg_i.mp z; rw [← es] at z2; omega) (fun z => by have z2 := sp_sg_i.mp z; rw [← es] at z2; omega)
                            exact he_ret ⟨_, _, cff_u (cff_u (cff_u hf (by decide) (by decide)) (by decide) (by decide)) (by decide) (by decide), ck_of (s := s) (e := s) (k := 4) (by exact h3) (by rfl) (by exact h5) (by rfl) (by rfl) es (by omega) t1.symm (sp_cw0 (by omega)).symm (fun z => absurd z (by omega)) (fun z => absurd z (by omega)) (fun z => absurd z (by omega)), rfl⟩ (by rfl) (by rfl) (by rfl)
                  · rw [show (fx_cb .gt (nI (T k)) 57) = false from cb_gtF (a := (T k)) (b := 57) (by omega) (by omega) (by omega)]
                    dsimp only [cond]
                    refine he_s 1 (pc' := 123) (lc' := [(1, .int (nI (T k))), (0, .ref 9)]) (stk' := [.ref 9]) (mem' := cm (fm_u (fm_u g2 9 4 (nI k)) 9 7 (-1)) l a b R) (by intro _ _ _; eq_refl) ?_
                    obtain ⟨v0, mem0, ⟨g3, k1, k2, k3, k4, k5, k6, hR3⟩, hr3⟩ := ha_scanNumber (g := (fm_u (fm_u g2 9 4 (nI k)) 9 7 (-1))) (l := l) (b := b) (R := R) (s := k) hn hT hk h3 rfl h5 rfl
                    cases hR3
                    refine he_ivV hr3 (by omega) (by rfl) (by rfl) (by rfl) (by rfl) (by rfl) (by rfl) ?_
                    refine he_s 1 (pc' := 181) (lc' := [(1, .int (nI (T k))), (0, .ref 9)]) (stk' := []) (mem' := cm g3 l a b R) (by intro _ _ _; eq_refl) ?_
                    have hno : ¬ (k < n ∧ sp_ws (T k) = true) := fun z => by have z2 := sp_ws_i.mp z.2; omega
                    obtain rfl : s = k := by rw [← he]; exact sp_e_f hno
                    have es : s = sp_s T n p := hs.symm
                    obtain ⟨t1, t2⟩ := sp_t2 (T := T) (n := n) (p := p) (by omega) (by rw [← es]; exact sp_dg_i.mpr ⟨by omega, by omega⟩)
                    have t3 : sp_k T n p ≠ 1 ∧ sp_k T n p ≠ 3 := by rw [t1]; split <;> decide
                    refine he_ret ⟨g3, _, cff_tr (cff_u (cff_u hf (by decide) (by decide)) (by decide) (by decide)) k1, ck_of ((k1.1.2.1 3 (by decide)).trans h3) k2 k3 (show g3 9 6 = nI (if sp_n T n p ≤ sp_s T n p + 4 then 2 else 4) from ?_) k5 es (by rw [t2, es]) t1.symm (sp_cw0 t3.1).symm (fun z => absurd z t3.1) (fun _ => ?_) (fun z => absurd z t3.2), rfl⟩ (by rfl) (by rfl) (by rfl)
                    · rw [k4, t2, ← es]
                      split <;> rfl
                    · unfold sp_v
                      rw [k6, t2, ← es]
              · rw [show (fx_cb .lt (nI (T k)) 97) = false from cb_ltF (a := (T k)) (b := 97) (by omega) (by omega) (by omega)]
                dsimp only [cond]
                refine he_s 2 (pc' := 100) (lc' := [(1, .int (nI (T k))), (0, .ref 9)]) (stk' := [.int 122, .int (nI (T k))]) (mem' := cm (fm_u (fm_u g2 9 4 (nI k)) 9 7 (-1)) l a b R) (by intro _ _ _; eq_refl) ?_
                refine he_s 1 (pc' := cond (fx_cb .gt (nI (T k)) 122) 110 103) (lc' := [(1, .int (nI (T k))), (0, .ref 9)]) (stk' := []) (mem' := cm (fm_u (fm_u g2 9 4 (nI k)) 9 7 (-1)) l a b R) (by intro _ _ _; eq_refl) ?_
                by_cases y19 : 122 < (T k)
                · rw [show (fx_cb .gt (nI (T k)) 122) = true from cb_gtT (a := (T k)) (b := 122) (by omega) (by omega) (by omega)]
                  dsimp only [cond]
                  refine he_s 2 (pc' := 113) (lc' := [(1, .int (nI (T k))), (0, .ref 9)]) (stk' := [.int 48, .int (nI (T k))]) (mem' := cm (fm_u (fm_u g2 9 4 (nI k)) 9 7 (-1)) l a b R) (by intro _ _ _; eq_refl) ?_
                  refine he_s 1 (pc' := cond (fx_cb .lt (nI (T k)) 48) 129 116) (lc' := [(1, .int (nI (T k))), (0, .ref 9)]) (stk' := []) (mem' := cm (fm_u (fm_u g2 9 4 (nI k)) 9 7 (-1)) l a b R) (by intro _ _ _; eq_refl) ?_
                  rw [show (fx_cb .lt (nI (T k)) 48) = false from cb_ltF (a := (T k)) (b := 48) (by omega) (by omega) (by omega)]
                  dsimp only [cond]
                  refine he_s 2 (pc' := 119) (lc' := [(1, .int (nI (T k))), (0, .ref 9)]) (stk' := [.int 57, .int (nI (T k))]) (mem' := cm (fm_u (fm_u g2 9 4 (nI k)) 9 7 (-1)) l a b R) (by intro _ _ _; eq_refl) ?_
                  refine he_s 1 (pc' := cond (fx_cb .gt (nI (T k)) 57) 129 122) (lc' := [(1, .int (nI (T k))), (0, .ref 9)]) (stk' := []) (mem' := cm (fm_u (fm_u g2 9 4 (nI k)) 9 7 (-1)) l a b R) (by intro _ _ _; eq_refl) ?_
                  rw [show (fx_cb .gt (nI (T k)) 57) = true from cb_gtT (a := (T k)) (b := 57) (by omega) (by omega) (by omega)]
                  dsimp only [cond]
                  refine he_s 2 (pc' := 132) (lc' := [(1, .int (nI (T k))), (0, .ref 9)]) (stk' := [.int 59, .int (nI (T k))]) (mem' := cm (fm_u (fm_u g2 9 4 (nI k)) 9 7 (-1)) l a b R) (by intro _ _ _; eq_refl) ?_
                  refine he_s 1 (pc' := cond (fx_cb .eq (nI (T k)) 59) 153 135) (lc' := [(1, .int (nI (T k))), (0, .ref 9)]) (stk' := []) (mem' := cm (fm_u (fm_u g2 9 4 (nI k)) 9 7 (-1)) l a b R) (by intro _ _ _; eq_refl) ?_
                  rw [show (fx_cb .eq (nI (T k)) 59) = false from cb_eqF (a := (T k)) (b := 59) (by omega) (by omega) (by omega)]
                  dsimp only [cond]
                  refine he_s 2 (pc' := 138) (lc' := [(1, .int (nI (T k))), (0, .ref 9)]) (stk' := [.int 60, .int (nI (T k))]) (mem' := cm (fm_u (fm_u g2 9 4 (nI k)) 9 7 (-1)) l a b R) (by intro _ _ _; eq_refl) ?_
                  refine he_s 1 (pc' := cond (fx_cb .eq (nI (T k)) 60) 153 141) (lc' := [(1, .int (nI (T k))), (0, .ref 9)]) (stk' := []) (mem' := cm (fm_u (fm_u g2 9 4 (nI k)) 9 7 (-1)) l a b R) (by intro _ _ _; eq_refl) ?_
                  rw [show (fx_cb .eq (nI (T k)) 60) = false from cb_eqF (a := (T k)) (b := 60) (by omega) (by omega) (by omega)]
                  dsimp only [cond]
                  refine he_s 2 (pc' := 144) (lc' := [(1, .int (nI (T k))), (0, .ref 9)]) (stk' := [.int 62, .int (nI (T k))]) (mem' := cm (fm_u (fm_u g2 9 4 (nI k)) 9 7 (-1)) l a b R) (by intro _ _ _; eq_refl) ?_
                  refine he_s 1 (pc' := cond (fx_cb .eq (nI (T k)) 62) 153 147) (lc' := [(1, .int (nI (T k))), (0, .ref 9)]) (stk' := []) (mem' := cm (fm_u (fm_u g2 9 4 (nI k)) 9 7 (-1)) l a b R) (by intro _ _ _; eq_refl) ?_
                  rw [show (fx_cb .eq (nI (T k)) 62) = false from cb_eqF (a := (T k)) (b := 62) (by omega) (by omega) (by omega)]
                  dsimp only [cond]
                  refine he_s 2 (pc' := 150) (lc' := [(1, .int (nI (T k))), (0, .ref 9)]) (stk' := [.int 61, .int (nI (T k))]) (mem' := cm (fm_u (fm_u g2 9 4 (nI k)) 9 7 (-1)) l a b R) (by intro _ _ _; eq_refl) ?_
                  refine he_s 1 (pc' := cond (fx_cb .ne (nI (T k)) 61) 176 153) (lc' := [(1, .int (nI (T k))), (0, .ref 9)]) (stk' := []) (mem' := cm (fm_u (fm_u g2 9 4 (nI k)) 9 7 (-1)) l a b R) (by intro _ _ _; eq_refl) ?_
                  rw [show (fx_cb .ne (nI (T k)) 61) = true from cb_neT (a := (T k)) (b := 61) (by omega) (by omega) (by omega)]
                  dsimp only [cond]
                  refine he_s 3 (pc' := 181) (lc' := [(1, .int (nI (T k))), (0, .ref 9)]) (stk' := []) (mem' := cm (fm_u (fm_u (fm_u g2 9 4 (nI k)) 9 7 (-1)) 9 6 4) l a b R) (by intro _ _ _; eq_refl) ?_
                  have hno : ¬ (k < n ∧ sp_ws (T k) = true) := fun z => by have z2 := sp_ws_i.mp z.2; omega
                  obtain rfl : s = k := by rw [← he]; exact sp_e_f hno
                  have es : s = sp_s T n p := hs.symm
                  obtain ⟨t1, t2⟩ := sp_t4 (T := T) (n := n) (p := p) (by omega) (fun z => by have z2 := sp_sm_i.mp z; rw [← es] at z2; omega) (fun z => by have z2 := sp_dg_i.mp z; rw [← es] at z2; omega) (fun z => by have z2 := sp_sg_i.mp z; rw [← es] at z2; omega)
                  exact he_ret ⟨_, _, cff_u (cff_u (cff_u hf (by decide) (by decide)) (by decide) (by decide)) (by decide) (by decide), ck_of (s := s) (e := s) (k := 4) (by exact h3) (by rfl) (by exact h5) (by rfl) (by rfl) es (by omega) t1.symm (sp_cw0 (by omega)).symm (fun z => absurd z (by omega)) (fun z => absurd z (by omega)) (fun z => absurd z (by omega)), rfl⟩ (by rfl) (by rfl) (by rfl)
                · rw [show (fx_cb .gt (nI (T k)) 122) = false from cb_gtF (a := (T k)) (b := 122) (by omega) (by omega) (by omega)]
                  dsimp only [cond]
                  refine he_s 1 (pc' := 104) (lc' := [(1, .int (nI (T k))), (0, .ref 9)]) (stk' := [.ref 9]) (mem' := cm (fm_u (fm_u g2 9 4 (nI k)) 9 7 (-1)) l a b R) (by intro _ _ _; eq_refl) ?_
                  obtain ⟨v0, mem0, ⟨g3, l3, k1, k2, k3, k4, k5, k6, hR3⟩, hr3⟩ := ha_scanWord (g := (fm_u (fm_u g2 9 4 (nI k)) 9 7 (-1))) (l := l) (b := b) (R := R) (s := k) hn hT hR hk h3 rfl h5 rfl
                  cases hR3
                  refine he_ivV hr3 (by omega) (by rfl) (by rfl) (by rfl) (by rfl) (by rfl) (by rfl) ?_
                  refine he_s 1 (pc' := 181) (lc' := [(1, .int (nI (T k))), (0, .ref 9)]) (stk' := []) (mem' := cm g3 l3 a b R) (by intro _ _ _; eq_refl) ?_
                  have hno : ¬ (k < n ∧ sp_ws (T k) = true) := fun z => by have z2 := sp_ws_i.mp z.2; omega
                  obtain rfl : s = k := by rw [← he]; exact sp_e_f hno
                  have es : s = sp_s T n p := hs.symm
                  obtain ⟨t1, t2⟩ := sp_t1 (T := T) (n := n) (p := p) (by omega) (by rw [← es]; exact sp_sm_i.mpr ⟨by omega, by omega⟩)
                  refine he_ret ⟨g3, l3, cff_tr (cff_u (cff_u hf (by decide) (by decide)) (by decide) (by decide)) k1, ck_of ((k1.1.2.1 3 (by decide)).trans h3) k2 k3 k4 k5 es (by rw [t2, es]) t1.symm ?_ (fun _ => ?_) (fun z => absurd z (by omega)) (fun z => absurd z (by omega)), rfl⟩ (by rfl) (by rfl) (by rfl)
                  · unfold sp_cw sp_wd
                    rw [t1, t2, ← es]
                    by_cases e9 : sp_kw (sp_L T s (sp_e sp_sm T n s - s)) < 23
                    · rw [if_pos e9, if_pos ⟨rfl, e9⟩]
                    · rw [if_neg e9, if_neg (fun z => e9 z.2)]
                  · unfold sp_cn sp_wd
                    rw [k6, t2, ← es]
            · rw [show (fx_cb .lt (nI k) (nI n)) = false from cb_ltF (a := k) (b := n) (by omega) (by omega) (by omega)]
              dsimp only [cond]
              refine he_s 4 (pc' := 181) (lc' := [(1, .int (nI (T k))), (0, .ref 9)]) (stk' := []) (mem' := cm (fm_u (fm_u (fm_u g2 9 4 (nI k)) 9 7 (-1)) 9 6 0) l a b R) (by intro _ _ _; eq_refl) ?_
              have hno : ¬ (k < n ∧ sp_ws (T k) = true) := fun z => by have z2 := sp_ws_i.mp z.2; omega
              obtain rfl : s = k := by rw [← he]; exact sp_e_f hno
              have es : s = sp_s T n p := hs.symm
              obtain ⟨t1, t2⟩ := sp_t0 (T := T) (n := n) (p := p) (by omega)
              exact he_ret ⟨_, _, cff_u (cff_u (cff_u hf (by decide) (by decide)) (by decide) (by decide)) (by decide) (by decide), ck_of (s := s) (e := s) (k := 0) (by exact h3) (by rfl) (by exact h5) (by rfl) (by rfl) es (by omega) t1.symm (sp_cw0 (by omega)).symm (fun z => absurd z (by omega)) (fun z => absurd z (by omega)) (fun z => absurd z (by omega)), rfl⟩ (by rfl) (by rfl) (by rfl)
      · refine he_s 1 (pc' := 21) (lc' := [(0, .ref 9)]) (stk' := [.int 10, .int (a 10 k)]) (mem' := cm g2 l a b R) (by intro _ _ _; eq_refl) ?_
        refine he_s 1 (pc' := cond (fx_cb .eq (a 10 k) 10) 37 24) (lc' := [(0, .ref 9)]) (stk' := []) (mem' := cm g2 l a b R) (by intro _ _ _; eq_refl) ?_
        rw [show (fx_cb .eq (a 10 k) 10) = false from cb_neg_eq ec6 (by decide)]
        dsimp only [cond]
        refine he_s 3 (pc' := 29) (lc' := [(0, .ref 9)]) (stk' := [.int (g2 9 5), .ref 9]) (mem' := cm g2 l a b R) (by intro _ _ _; eq_refl) ?_
        try rw [h5]
        refine he_ivV (ha_signAt (k := k) (show g2 9 3 = nI n from h3) hn (by omega)) (by omega) (by rfl) (by rfl) (by rfl) (by rfl) (by rfl) (by rfl) ?_
        rw [if_pos (show k < n from (by omega))]
        refine he_s 1 (pc' := 34) (lc' := [(0, .ref 9)]) (stk' := [.int 32, .int (a 10 k)]) (mem' := cm g2 l a b R) (by intro _ _ _; eq_refl) ?_
        refine he_s 1 (pc' := cond (fx_cb .ne (a 10 k) 32) 50 37) (lc' := [(0, .ref 9)]) (stk' := []) (mem' := cm g2 l a b R) (by intro _ _ _; eq_refl) ?_
        rw [show (fx_cb .ne (a 10 k) 32) = true from cb_neg_ne ec6 (by decide)]
        dsimp only [cond]
        refine he_s 10 (pc' := 68) (lc' := [(0, .ref 9)]) (stk' := [.int (g2 9 5), .ref 9]) (mem' := cm (fm_u (fm_u g2 9 4 (g2 9 5)) 9 7 (-1)) l a b R) (by intro _ _ _; eq_refl) ?_
        try rw [h5]
        refine he_ivV (ha_signAt (k := k) (show (fm_u (fm_u g2 9 4 (nI k)) 9 7 (-1)) 9 3 = nI n from h3) hn (by omega)) (by omega) (by rfl) (by rfl) (by rfl) (by rfl) (by rfl) (by rfl) ?_
        rw [if_pos (show k < n from (by omega))]
        refine he_s 5 (pc' := 80) (lc' := [(1, .int (a 10 k)), (0, .ref 9)]) (stk' := [.int (g2 9 3), .int (g2 9 5)]) (mem' := cm (fm_u (fm_u g2 9 4 (nI k)) 9 7 (-1)) l a b R) (by intro _ _ _; eq_refl) ?_
        try rw [h5]
        try rw [h3]
        refine he_s 1 (pc' := cond (fx_cb .lt (nI k) (nI n)) 91 83) (lc' := [(1, .int (a 10 k)), (0, .ref 9)]) (stk' := []) (mem' := cm (fm_u (fm_u g2 9 4 (nI k)) 9 7 (-1)) l a b R) (by intro _ _ _; eq_refl) ?_
        by_cases y22 : k < n
        · rw [show (fx_cb .lt (nI k) (nI n)) = true from cb_ltT (a := k) (b := n) (by omega) (by omega) (by omega)]
          dsimp only [cond]
          refine he_s 2 (pc' := 94) (lc' := [(1, .int (a 10 k)), (0, .ref 9)]) (stk' := [.int 97, .int (a 10 k)]) (mem' := cm (fm_u (fm_u g2 9 4 (nI k)) 9 7 (-1)) l a b R) (by intro _ _ _; eq_refl) ?_
          refine he_s 1 (pc' := cond (fx_cb .lt (a 10 k) 97) 110 97) (lc' := [(1, .int (a 10 k)), (0, .ref 9)]) (stk' := []) (mem' := cm (fm_u (fm_u g2 9 4 (nI k)) 9 7 (-1)) l a b R) (by intro _ _ _; eq_refl) ?_
          rw [show (fx_cb .lt (a 10 k) 97) = true from cb_neg_lt ec6 (by decide)]
          dsimp only [cond]
          refine he_s 2 (pc' := 113) (lc' := [(1, .int (a 10 k)), (0, .ref 9)]) (stk' := [.int 48, .int (a 10 k)]) (mem' := cm (fm_u (fm_u g2 9 4 (nI k)) 9 7 (-1)) l a b R) (by intro _ _ _; eq_refl) ?_
          refine he_s 1 (pc' := cond (fx_cb .lt (a 10 k) 48) 129 116) (lc' := [(1, .int (a 10 k)), (0, .ref 9)]) (stk' := []) (mem' := cm (fm_u (fm_u g2 9 4 (nI k)) 9 7 (-1)) l a b R) (by intro _ _ _; eq_refl) ?_
          rw [show (fx_cb .lt (a 10 k) 48) = true from cb_neg_lt ec6 (by decide)]
          dsimp only [cond]
          refine he_s 2 (pc' := 132) (lc' := [(1, .int (a 10 k)), (0, .ref 9)]) (stk' := [.int 59, .int (a 10 k)]) (mem' := cm (fm_u (fm_u g2 9 4 (nI k)) 9 7 (-1)) l a b R) (by intro _ _ _; eq_refl) ?_
          refine he_s 1 (pc' := cond (fx_cb .eq (a 10 k) 59) 153 135) (lc' := [(1, .int (a 10 k)), (0, .ref 9)]) (stk' := []) (mem' := cm (fm_u (fm_u g2 9 4 (nI k)) 9 7 (-1)) l a b R) (by intro _ _ _; eq_refl) ?_
          rw [show (fx_cb .eq (a 10 k) 59) = false from cb_neg_eq ec6 (by decide)]
          dsimp only [cond]
          refine he_s 2 (pc' := 138) (lc' := [(1, .int (a 10 k)), (0, .ref 9)]) (stk' := [.int 60, .int (a 10 k)]) (mem' := cm (fm_u (fm_u g2 9 4 (nI k)) 9 7 (-1)) l a b R) (by intro _ _ _; eq_refl) ?_
          refine he_s 1 (pc' := cond (fx_cb .eq (a 10 k) 60) 153 141) (lc' := [(1, .int (a 10 k)), (0, .ref 9)]) (stk' := []) (mem' := cm (fm_u (fm_u g2 9 4 (nI k)) 9 7 (-1)) l a b R) (by intro _ _ _; eq_refl) ?_
          rw [show (fx_cb .eq (a 10 k) 60) = false from cb_neg_eq ec6 (by decide)]
          dsimp only [cond]
          refine he_s 2 (pc' := 144) (lc' := [(1, .int (a 10 k)), (0, .ref 9)]) (stk' := [.int 62, .int (a 10 k)]) (mem' := cm (fm_u (fm_u g2 9 4 (nI k)) 9 7 (-1)) l a b R) (by intro _ _ _; eq_refl) ?_
          refine he_s 1 (pc' := cond (fx_cb .eq (a 10 k) 62) 153 147) (lc' := [(1, .int (a 10 k)), (0, .ref 9)]) (stk' := []) (mem' := cm (fm_u (fm_u g2 9 4 (nI k)) 9 7 (-1)) l a b R) (by intro _ _ _; eq_refl) ?_
          rw [show (fx_cb .eq (a 10 k) 62) = false from cb_neg_eq ec6 (by decide)]
          dsimp only [cond]
          refine he_s 2 (pc' := 150) (lc' := [(1, .int (a 10 k)), (0, .ref 9)]) (stk' := [.int 61, .int (a 10 k)]) (mem' := cm (fm_u (fm_u g2 9 4 (nI k)) 9 7 (-1)) l a b R) (by intro _ _ _; eq_refl) ?_
          refine he_s 1 (pc' := cond (fx_cb .ne (a 10 k) 61) 176 153) (lc' := [(1, .int (a 10 k)), (0, .ref 9)]) (stk' := []) (mem' := cm (fm_u (fm_u g2 9 4 (nI k)) 9 7 (-1)) l a b R) (by intro _ _ _; eq_refl) ?_
          rw [show (fx_cb .ne (a 10 k) 61) = true from cb_neg_ne ec6 (by decide)]
          dsimp only [cond]
          refine he_s 3 (pc' := 181) (lc' := [(1, .int (a 10 k)), (0, .ref 9)]) (stk' := []) (mem' := cm (fm_u (fm_u (fm_u g2 9 4 (nI k)) 9 7 (-1)) 9 6 4) l a b R) (by intro _ _ _; eq_refl) ?_
          have hno : ¬ (k < n ∧ sp_ws (T k) = true) := fun z => by have z2 := sp_ws_i.mp z.2; omega
          obtain rfl : s = k := by rw [← he]; exact sp_e_f hno
          have es : s = sp_s T n p := hs.symm
          obtain ⟨t1, t2⟩ := sp_t4 (T := T) (n := n) (p := p) (by omega) (fun z => by have z2 := sp_sm_i.mp z; rw [← es] at z2; omega) (fun z => by have z2 := sp_dg_i.mp z; rw [← es] at z2; omega) (fun z => by have z2 := sp_sg_i.mp z; rw [← es] at z2; omega)
          exact he_ret ⟨_, _, cff_u (cff_u (cff_u hf (by decide) (by decide)) (by decide) (by decide)) (by decide) (by decide), ck_of (s := s) (e := s) (k := 4) (by exact h3) (by rfl) (by exact h5) (by rfl) (by rfl) es (by omega) t1.symm (sp_cw0 (by omega)).symm (fun z => absurd z (by omega)) (fun z => absurd z (by omega)) (fun z => absurd z (by omega)), rfl⟩ (by rfl) (by rfl) (by rfl)
        · rw [show (fx_cb .lt (nI k) (nI n)) = false from cb_ltF (a := k) (b := n) (by omega) (by omega) (by omega)]
          dsimp only [cond]
          refine he_s 4 (pc' := 181) (lc' := [(1, .int (a 10 k)), (0, .ref 9)]) (stk' := []) (mem' := cm (fm_u (fm_u (fm_u g2 9 4 (nI k)) 9 7 (-1)) 9 6 0) l a b R) (by intro _ _ _; eq_refl) ?_
          have hno : ¬ (k < n ∧ sp_ws (T k) = true) := fun z => by have z2 := sp_ws_i.mp z.2; omega
          obtain rfl : s = k := by rw [← he]; exact sp_e_f hno
          have es : s = sp_s T n p := hs.symm
          obtain ⟨t1, t2⟩ := sp_t0 (T := T) (n := n) (p := p) (by omega)
          exact he_ret ⟨_, _, cff_u (cff_u (cff_u hf (by decide) (by decide)) (by decide) (by decide)) (by decide) (by decide), ck_of (s := s) (e := s) (k := 0) (by exact h3) (by rfl) (by exact h5) (by rfl) (by rfl) es (by omega) t1.symm (sp_cw0 (by omega)).symm (fun z => absurd z (by omega)) (fun z => absurd z (by omega)) (fun z => absurd z (by omega)), rfl⟩ (by rfl) (by rfl) (by rfl)
theorem ha_scan0 (hn : n ≤ 900) (hT : ct (a 10) T n) (hR : cr (b 11)) (hp : p ≤ n) (h3 : g 9 3 = nI n) (h5 : g 9 5 = nI p) : ∃ (g' : Nat → Nat → Int32) (l' : Nat → Nat → Int64), hr_T 3 104 [.ref 9] (cm g l a b R) none (cm g' l' a b R) ∧ ck g' l' T n p ∧ cff g l g' l' := by
  obtain ⟨v, mem', ⟨g', l', h1, h2, hR1⟩, hr⟩ := he_meth (k := 2) (f := 104) (as := [.ref 9]) (F := fun R1 => ∃ (g' : Nat → Nat → Int32) (l' : Nat → Nat → Int64), cff g l g' l' ∧ ck g' l' T n p ∧ R1 = (none, cm g' l' a b R)) (M := gk_m104) (by rfl) (by rfl) (ha_sp hn hT hR rfl (n - p) p rfl (Nat.le_refl _) hp g cff_rf h3 h5 rfl)
  cases hR1
  exact ⟨g', l', hr, h2, h1⟩
theorem ha_scan (hn : n ≤ 900) (hT : ct (a 10) T n) (hR : cr (b 11)) (hp : p ≤ n) (h : ck g l T n p) : ∃ (g' : Nat → Nat → Int32) (l' : Nat → Nat → Int64), hr_T 3 104 [.ref 9] (cm g l a b R) none (cm g' l' a b R) ∧ ck g' l' T n (sp_n T n p) ∧ cff g l g' l' := ha_scan0 hn hT hR (sp_n_le hp) h.1 h.2.2.1
end CTK
