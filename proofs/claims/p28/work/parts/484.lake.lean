/-! ===== fx: a LAKE is read ===== -/
section FLQ
variable {g : Nat → Int32} {tp bt : Int64} {a : Nat → Nat → Int32} {b : Nat → Nat → Int64}
theorem fe_stB {k pc : Nat} {M : rk_M2} {lc : fx_L} {r : List Value} {mem : fx_M} {F : Option Value × fx_M → Prop} {i v : Int32} {j len : Nat} {f : Nat → Int32} {mem' : fx_M} (hat : tk_at M.1 pc = some (pc, .bastore, 1)) (hj : mem[j]? = some (.inr (.byte, len, .inl f))) (hin : fx_in i len = true) (hm : mem.set j (.inr (.byte, len, .inl (upd f i.toNatClampNeg v.toInt8.toInt32))) = mem') (kk : fe_R k M (pc + 1) lc r mem' F) : fe_R k M pc lc (.int v :: .int i :: .ref j :: r) mem F := fe_of (fun _ z => fr_1 (fun _ _ => fx_stB hat hj hin hm) z) kk
theorem fm_utt {a : Nat → Nat → Int32} {T s t : Nat} {x : Int32} (h : t ≠ s) : (fm_u a s T x) t = a t := by
  unfold fm_u
  rw [if_neg h]
theorem fm_us {a : Nat → Nat → Int32} {T i s : Nat} {x : Int32} : (fm_u a s T x) s i = if i = T then x else a s i := by
  unfold fm_u
  rw [if_pos rfl]
  by_cases h : i = T
  · subst h; rw [pk_us, if_pos rfl]
  · rw [pk_un h, if_neg h]
theorem fm_i8 (x : Int32) : -128 ≤ x.toInt8.toInt32.toInt ∧ x.toInt8.toInt32.toInt ≤ 127 := by
  rw [Int8.toInt_toInt32]
  have h1 := Int8.le_toInt x.toInt8
  have h2 := Int8.toInt_lt x.toInt8
  omega
/-- the text is new, byte by byte -/
def fm_tx7 (a a' : Nat → Nat → Int32) : Prop := (∀ t, t ≠ 7 → a' t = a t) ∧ ∀ i, a' 7 i = a 7 i ∨ ∃ x : Int32, a' 7 i = x.toInt8.toInt32
theorem fm_tx7_u {a a' : Nat → Nat → Int32} {T : Nat} {x : Int32} (h : fm_tx7 a a') : fm_tx7 a (fm_u a' 7 T x.toInt8.toInt32) := ⟨fun t ht => by rw [fm_utt ht]; exact h.1 t ht, fun i => by
  rw [fm_us]
  split
  · exact Or.inr ⟨x, rfl⟩
  · exact h.2 i⟩
def fm_begun (g g' : Nat → Int32) : Prop := (∀ j, j ≠ 10 → j ≠ 11 → j ≠ 12 → j ≠ 13 → j ≠ 14 → j ≠ 15 → j ≠ 17 → j ≠ 18 → j ≠ 19 → g' j = g j) ∧ g' 10 = 0 ∧ g' 18 = 0 ∧ g' 19 = 0 ∧ (∃ S E F, fm_xp g' S E F) ∧ fm_flt g'
def fm_FB (g : Nat → Int32) (tp bt : Int64) (a : Nat → Nat → Int32) (b : Nat → Nat → Int64) (n most : Int32) (R : Option Value × fx_M) : Prop := ∃ (v : Int32) (g' : Nat → Int32) (a' : Nat → Nat → Int32), R = (some (.int v), fm g' tp bt a' b) ∧ (v = 0 ∧ g' = g ∧ a' = a ∧ ¬ (0 ≤ n ∧ n ≤ g 10 ∧ n ≤ most) ∨ v = 1 ∧ (0 ≤ n ∧ n ≤ g 10 ∧ n ≤ most) ∧ fm_begun g g' ∧ fm_tx7 a a')
theorem cb_ltT' {x y : Int32} (h : fx_cb .lt x y = true) : x < y := of_decide_eq_true h
theorem cb_gtT' {x y : Int32} (h : fx_cb .gt x y = true) : y < x := of_decide_eq_true h
theorem cb_leT' {x y : Int32} (h : fx_cb .le x y = true) : x ≤ y := of_decide_eq_true h
theorem cb_leF' {x y : Int32} (h : fx_cb .le x y = false) : ¬ x ≤ y := of_decide_eq_false h
theorem fr_begins {n most : Int32} (hT : ∃ T, T ≤ 900 ∧ g 10 = nI T) : ∃ (v : Option Value) (mem' : fx_M), (fm_FB g tp bt a b n most) (v, mem') ∧ fr_T 3 228 [.ref 0, .int n, .int most] (fm g tp bt a b) v mem' := by
  refine fe_meth (F := fm_FB g tp bt a b n most) (M := gk_m228) (by rfl) (by rfl) ?_
  refine fe_s 1 (pc' := 1) (lc' := [(0, .ref 0), (1, .int n), (2, .int most)]) (stk' := [.int n]) (mem' := fm g tp bt a b) (fun _ _ _ => rfl) ?_
  refine fe_s 1 (pc' := cond (fx_cb .lt n 0) 17 4) (lc' := [(0, .ref 0), (1, .int n), (2, .int most)]) (stk' := []) (mem' := fm g tp bt a b) (fun _ _ _ => rfl) ?_
  cases h12 : fx_cb .lt n 0
  · refine fe_s 3 (pc' := 9) (lc' := [(0, .ref 0), (1, .int n), (2, .int most)]) (stk' := [.int (g 10), .int n]) (mem' := fm g tp bt a b) (fun _ _ _ => rfl) ?_
    refine fe_s 1 (pc' := cond (fx_cb .gt n (g 10)) 17 12) (lc' := [(0, .ref 0), (1, .int n), (2, .int most)]) (stk' := []) (mem' := fm g tp bt a b) (fun _ _ _ => rfl) ?_
    cases h13 : fx_cb .gt n (g 10)
    · refine fe_s 2 (pc' := 14) (lc' := [(0, .ref 0), (1, .int n), (2, .int most)]) (stk' := [.int most, .int n]) (mem' := fm g tp bt a b) (fun _ _ _ => rfl) ?_
      refine fe_s 1 (pc' := cond (fx_cb .le n most) 19 17) (lc' := [(0, .ref 0), (1, .int n), (2, .int most)]) (stk' := []) (mem' := fm g tp bt a b) (fun _ _ _ => rfl) ?_
      cases h14 : fx_cb .le n most
      · refine fe_s 1 (pc' := 18) (lc' := [(0, .ref 0), (1, .int n), (2, .int most)]) (stk' := [.int 0]) (mem' := fm g tp bt a b) (fun _ _ _ => rfl) ?_
        exact fe_ret ⟨0, g, a, rfl, Or.inl ⟨rfl, rfl, rfl, fun z => absurd z.2.2 (cb_leF' h14)⟩⟩ (by rfl) (by rfl) (by rfl)
      · have q1 : (0 : Int32) ≤ n := Int32.not_lt.mp (of_decide_eq_false h12)
        have q2 : n ≤ g 10 := cb_gtF' h13
        have q3 : n ≤ most := cb_leT' h14
        obtain ⟨T, hT9, eT⟩ := hT
        obtain ⟨N, hN, rfl⟩ : ∃ N, N ≤ 900 ∧ n = nI N := by
          have z1 := Int32.le_iff_toInt_le.mp q1
          have z2 := Int32.le_iff_toInt_le.mp q2
          rw [eT, nI_i32 (by omega)] at z2
          exact nI_bd (n := 900) z1 (by omega)
        clear eT hT9
        have loop : ∀ (r k : Nat), k + r = N → ∀ a' : Nat → Nat → Int32, fm_tx7 a a' → fe_R 2 gk_m228 26 [(3, .int (nI k)), (0, .ref 0), (1, .int (nI N)), (2, .int most)] [] (fm (upd g 11 (nI N)) tp bt a' b) (fm_FB g tp bt a b (nI N) most) := by
          intro r
          induction r with
          | zero =>
            intro k hk a' ha
            obtain rfl : N = k := by omega
            refine fe_s 2 (pc' := 28) (lc' := [(3, .int (nI N)), (0, .ref 0), (1, .int (nI N)), (2, .int most)]) (stk' := [.int (nI N), .int (nI N)]) (mem' := fm (upd g 11 (nI N)) tp bt a' b) (fun _ _ _ => rfl) ?_
            refine fe_s 1 (pc' := cond (fx_cb .ge (nI N) (nI N)) 49 31) (lc' := [(3, .int (nI N)), (0, .ref 0), (1, .int (nI N)), (2, .int most)]) (stk' := []) (mem' := fm (upd g 11 (nI N)) tp bt a' b) (fun _ _ _ => rfl) ?_
            rw [show (fx_cb .ge (nI N) (nI N)) = true from cb_geT (a := N) (b := N) (by omega) (by omega) (by omega)]
            dsimp only [cond]
            refine fe_s 16 (pc' := 75) (lc' := [(3, .int (nI N)), (0, .ref 0), (1, .int (nI N)), (2, .int most)]) (stk' := [.ref 0]) (mem' := fm (upd (upd (upd (upd (upd (upd g 11 (nI N)) 10 0) 18 0) 17 (-1)) 14 0) 19 0) tp bt a' b) (fun _ _ _ => rfl) ?_
            obtain ⟨v5, mem5, ⟨g5, E5, F5, ht5, hx5, hE5, hp5, hR5⟩, hfr5⟩ := fr_ahead (S := N) (E := 0) (g := (upd (upd (upd (upd (upd (upd g 11 (nI N)) 10 0) 18 0) 17 (-1)) 14 0) 19 0)) (tp := tp) (bt := bt) (a := a') (b := b) rfl (by omega) rfl (by omega)
            cases hR5
            refine fe_ivV hfr5 (by omega) (by rfl) (by rfl) (by rfl) (by rfl) (by rfl) (by rfl) ?_
            refine fe_s 1 (pc' := 79) (lc' := [(3, .int (nI N)), (0, .ref 0), (1, .int (nI N)), (2, .int most)]) (stk' := [.int 1]) (mem' := fm g5 tp bt a' b) (fun _ _ _ => rfl) ?_
            refine fe_ret ⟨1, g5, a', rfl, Or.inr ⟨rfl, ⟨q1, q2, q3⟩, ⟨fun j j0 j1 j2 j3 j4 j5 j6 j7 j8 => ?_, ht5 10 (by decide) (by decide) (by decide) (by decide), ht5 18 (by decide) (by decide) (by decide) (by decide), ht5 19 (by decide) (by decide) (by decide) (by decide), ⟨_, _, _, hx5⟩, fm_flt_tx ⟨⟨0, by omega, rfl⟩, (show (-1 : Int) ≤ (-1 : Int32).toInt by decide), (show (-1 : Int32).toInt ≤ 900 by decide)⟩ ht5⟩, ha⟩⟩ (by rfl) (by rfl) (by rfl)
            rw [ht5 j j2 j3 j4 j5, pk_un j8, pk_un j4, pk_un j6, pk_un j7, pk_un j0, pk_un j1]
          | succ r ih =>
            intro k hk a' ha
            refine fe_s 2 (pc' := 28) (lc' := [(3, .int (nI k)), (0, .ref 0), (1, .int (nI N)), (2, .int most)]) (stk' := [.int (nI N), .int (nI k)]) (mem' := fm (upd g 11 (nI N)) tp bt a' b) (fun _ _ _ => rfl) ?_
            refine fe_s 1 (pc' := cond (fx_cb .ge (nI k) (nI N)) 49 31) (lc' := [(3, .int (nI k)), (0, .ref 0), (1, .int (nI N)), (2, .int most)]) (stk' := []) (mem' := fm (upd g 11 (nI N)) tp bt a' b) (fun _ _ _ => rfl) ?_
            rw [show (fx_cb .ge (nI k) (nI N)) = false from cb_geF (a := k) (b := N) (by omega) (by omega) (by omega)]
            dsimp only [cond]
            refine fe_s 6 (pc' := 41) (lc' := [(3, .int (nI k)), (0, .ref 0), (1, .int (nI N)), (2, .int most)]) (stk' := [.int (nI k), .ref 6, .int (nI k), .ref 7]) (mem' := fm (upd g 11 (nI N)) tp bt a' b) (fun _ _ _ => rfl) ?_
            refine fe_ldB (by rfl) (by rfl) (fx_inN (i := k) (by omega) (by omega)) ?_
            rw [show Int32.toNatClampNeg (nI k) = k from nI_clamp (by omega)]
            refine fe_stB (mem' := fm (upd g 11 (nI N)) tp bt (fm_u a' 7 (nI k : Int32).toNatClampNeg (a' 6 k).toInt8.toInt32) b) (by rfl) (by rfl) (fx_inN (i := k) (by omega) (by omega)) fm_sb7 ?_
            rw [show Int32.toNatClampNeg (nI k) = k from nI_clamp (by omega)]
            refine fe_s 2 (pc' := 26) (lc' := [(3, .int ((nI k) + 1)), (0, .ref 0), (1, .int (nI N)), (2, .int most)]) (stk' := []) (mem' := fm (upd g 11 (nI N)) tp bt (fm_u a' 7 k (a' 6 k).toInt8.toInt32) b) (fun _ _ _ => rfl) ?_
            rw [show ((nI k) + 1 : Int32) = nI (k + 1) from by simp only [show (1 : Int32) = nI 1 from rfl, nI_add, fm_mul]]
            exact ih (k + 1) (by omega) _ (fm_tx7_u ha)
        refine fe_s 5 (pc' := 26) (lc' := [(3, .int 0), (0, .ref 0), (1, .int (nI N)), (2, .int most)]) (stk' := []) (mem' := fm (upd g 11 (nI N)) tp bt a b) (fun _ _ _ => rfl) ?_
        exact loop N 0 (by omega) a ⟨fun _ _ => rfl, fun _ => Or.inl rfl⟩
    · refine fe_s 1 (pc' := 18) (lc' := [(0, .ref 0), (1, .int n), (2, .int most)]) (stk' := [.int 0]) (mem' := fm g tp bt a b) (fun _ _ _ => rfl) ?_
      exact fe_ret ⟨0, g, a, rfl, Or.inl ⟨rfl, rfl, rfl, fun z => absurd z.2.1 (Int32.not_le.mpr (cb_gtT' h13))⟩⟩ (by rfl) (by rfl) (by rfl)
  · refine fe_s 1 (pc' := 18) (lc' := [(0, .ref 0), (1, .int n), (2, .int most)]) (stk' := [.int 0]) (mem' := fm g tp bt a b) (fun _ _ _ => rfl) ?_
    exact fe_ret ⟨0, g, a, rfl, Or.inl ⟨rfl, rfl, rfl, fun z => absurd z.1 (Int32.not_le.mpr (cb_ltT' h12))⟩⟩ (by rfl) (by rfl) (by rfl)
/-- what plain writes -/
def fm_pl (i : Nat) : Int32 := if i = 2 then 2 else if i = 3 then 4 else if i = 4 then 1 else if i = 6 then -1 else 0
def fm_pln (a a' : Nat → Nat → Int32) : Prop := (∀ t, t ≠ 1 → a' t = a t) ∧ (∀ i, ¬ (3368 ≤ i ∧ i < 4210) → a' 1 i = a 1 i) ∧ ∀ i, i < 842 → a' 1 (3368 + i) = fm_pl i
theorem fm_pln_N {a a' : Nat → Nat → Int32} (h : fm_pln a a') : fm_N a a' 0 0 ∧ fm_NW a' := by
  obtain ⟨h1, h2, h3⟩ := h
  have hv : ∀ i, i < 842 → (gm_at (3368 + i)).1 ≤ (fm_pl i).toInt ∧ (fm_pl i).toInt ≤ (gm_at (3368 + i)).2 := by decide +kernel
  refine ⟨⟨h1, h2, ⟨h3 0 (by omega), by omega, h3 1 (by omega), by omega⟩, fun i h4 h5 => ?_, fun c d hc hd => ?_, h3 6 (by omega)⟩, fun w hw => ?_⟩
  · obtain ⟨k, rfl⟩ := Nat.exists_eq_add_of_le h4
    rw [h3 k (by omega)]
    exact hv k (by omega)
  · rw [show 3368 + 10 + 6 * c = 3368 + (10 + 6 * c) by omega, show 3368 + 10 + 6 * d = 3368 + (10 + 6 * d) by omega, h3 _ (by omega), h3 _ (by omega)]
    have e : ∀ c, c < 10 → fm_pl (10 + 6 * c) = nI 0 := by decide
    rw [e c hc, e d hd, fm_b_nat 0 (by omega) d hd, fm_b_nat 0 (by omega) c hc]
    simp
  · rw [show 3647 + 5 * w = 3368 + (279 + 5 * w) by omega, h3 _ (by omega)]
    have e : ∀ c, c < 8 → 0 ≤ (fm_pl (279 + 5 * c)).toInt := by decide
    exact e w hw
theorem fr_plain : ∃ (v : Option Value) (mem' : fx_M), (fun R => ∃ a' : Nat → Nat → Int32, fm_pln a a' ∧ R = (none, fm g tp bt a' b)) (v, mem') ∧ fr_T 1 202 [.ref 0, .int 3368] (fm g tp bt a b) v mem' := by
  refine fe_meth (F := fun R => ∃ a' : Nat → Nat → Int32, fm_pln a a' ∧ R = (none, fm g tp bt a' b)) (M := gk_m202) (by rfl) (by rfl) ?_
  have loop : ∀ (r k : Nat), k + r = 842 → ∀ a' : Nat → Nat → Int32, (∀ t, t ≠ 1 → a' t = a t) → (∀ i, ¬ (3368 ≤ i ∧ i < 4210) → a' 1 i = a 1 i) → (∀ i, i < k → a' 1 (3368 + i) = 0) → fe_R 0 gk_m202 2 [(2, .int (nI k)), (0, .ref 0), (1, .int 3368)] [] (fm g tp bt a' b) (fun R => ∃ a' : Nat → Nat → Int32, fm_pln a a' ∧ R = (none, fm g tp bt a' b)) := by
    intro r
    induction r with
    | zero =>
      intro k hk a' h1 h2 h3
      obtain rfl : k = 842 := by omega
      refine fe_s 2 (pc' := 6) (lc' := [(2, .int (nI 842)), (0, .ref 0), (1, .int 3368)]) (stk' := [.int 842, .int (nI 842)]) (mem' := fm g tp bt a' b) (fun _ _ _ => rfl) ?_
      refine fe_s 1 (pc' := cond (fx_cb .ge (nI 842) 842) 24 9) (lc' := [(2, .int (nI 842)), (0, .ref 0), (1, .int 3368)]) (stk' := []) (mem' := fm g tp bt a' b) (fun _ _ _ => rfl) ?_
      rw [show (fx_cb .ge (nI 842) 842) = true from cb_geT (a := 842) (b := 842) (by omega) (by omega) (by omega)]
      dsimp only [cond]
      refine fe_s 6 (pc' := 32) (lc' := [(2, .int (nI 842)), (0, .ref 0), (1, .int 3368)]) (stk' := [.int 2, .int (3368 + 2), .ref 1]) (mem' := fm g tp bt a' b) (fun _ _ _ => rfl) ?_
      rw [show (3368 + 2 : Int32) = 3370 from rfl]
      refine fe_stI (mem' := fm g tp bt (fm_u a' 1 (3370 : Int32).toNatClampNeg 2) b) (by rfl) (by rfl) (fx_inN (i := 3370) (by omega) (by omega)) fm_si1 ?_
      rw [show Int32.toNatClampNeg (3370) = 3370 from rfl]
      refine fe_s 6 (pc' := 41) (lc' := [(2, .int (nI 842)), (0, .ref 0), (1, .int 3368)]) (stk' := [.int 4, .int (3368 + 3), .ref 1]) (mem' := fm g tp bt (fm_u a' 1 (3370) 2) b) (fun _ _ _ => rfl) ?_
      rw [show (3368 + 3 : Int32) = 3371 from rfl]
      refine fe_stI (mem' := fm g tp bt (fm_u (fm_u a' 1 (3370) 2) 1 (3371 : Int32).toNatClampNeg 4) b) (by rfl) (by rfl) (fx_inN (i := 3371) (by omega) (by omega)) fm_si1 ?_
      rw [show Int32.toNatClampNeg (3371) = 3371 from rfl]
      refine fe_s 6 (pc' := 50) (lc' := [(2, .int (nI 842)), (0, .ref 0), (1, .int 3368)]) (stk' := [.int 1, .int (3368 + 4), .ref 1]) (mem' := fm g tp bt (fm_u (fm_u a' 1 (3370) 2) 1 (3371) 4) b) (fun _ _ _ => rfl) ?_
      rw [show (3368 + 4 : Int32) = 3372 from rfl]
      refine fe_stI (mem' := fm g tp bt (fm_u (fm_u (fm_u a' 1 (3370) 2) 1 (3371) 4) 1 (3372 : Int32).toNatClampNeg 1) b) (by rfl) (by rfl) (fx_inN (i := 3372) (by omega) (by omega)) fm_si1 ?_
      rw [show Int32.toNatClampNeg (3372) = 3372 from rfl]
      refine fe_s 6 (pc' := 60) (lc' := [(2, .int (nI 842)), (0, .ref 0), (1, .int 3368)]) (stk' := [.int (-1), .int (3368 + 6), .ref 1]) (mem' := fm g tp bt (fm_u (fm_u (fm_u a' 1 (3370) 2) 1 (3371) 4) 1 (3372) 1) b) (fun _ _ _ => rfl) ?_
      rw [show (3368 + 6 : Int32) = 3374 from rfl]
      refine fe_stI (mem' := fm g tp bt (fm_u (fm_u (fm_u (fm_u a' 1 (3370) 2) 1 (3371) 4) 1 (3372) 1) 1 (3374 : Int32).toNatClampNeg (-1)) b) (by rfl) (by rfl) (fx_inN (i := 3374) (by omega) (by omega)) fm_si1 ?_
      rw [show Int32.toNatClampNeg (3374) = 3374 from rfl]
      refine fe_ret ⟨(fm_u (fm_u (fm_u (fm_u a' 1 (3370) 2) 1 (3371) 4) 1 (3372) 1) 1 (3374) (-1)), ⟨fun t ht => by rw [fm_ut ht, fm_ut ht, fm_ut ht, fm_ut ht]; exact h1 t ht, fun i hi => by rw [fm_u1, if_neg (by omega), fm_u1, if_neg (by omega), fm_u1, if_neg (by omega), fm_u1, if_neg (by omega)]; exact h2 i hi, fun i hi => ?_⟩, rfl⟩ (by rfl) (by rfl) (by rfl)
      rw [fm_u1, fm_u1, fm_u1, fm_u1, h3 i (by omega)]
      unfold fm_pl
      by_cases e6 : i = 6
      · subst e6; rfl
      by_cases e4 : i = 4
      · subst e4; rfl
      by_cases e3 : i = 3
      · subst e3; rfl
      by_cases e2 : i = 2
      · subst e2; rfl
      rw [if_neg (by omega), if_neg (by omega), if_neg (by omega), if_neg (by omega), if_neg e2, if_neg e3, if_neg e4, if_neg e6]
    | succ r ih =>
      intro k hk a' h1 h2 h3
      refine fe_s 2 (pc' := 6) (lc' := [(2, .int (nI k)), (0, .ref 0), (1, .int 3368)]) (stk' := [.int 842, .int (nI k)]) (mem' := fm g tp bt a' b) (fun _ _ _ => rfl) ?_
      refine fe_s 1 (pc' := cond (fx_cb .ge (nI k) 842) 24 9) (lc' := [(2, .int (nI k)), (0, .ref 0), (1, .int 3368)]) (stk' := []) (mem' := fm g tp bt a' b) (fun _ _ _ => rfl) ?_
      rw [show (fx_cb .ge (nI k) 842) = false from cb_geF (a := k) (b := 842) (by omega) (by omega) (by omega)]
      dsimp only [cond]
      refine fe_s 6 (pc' := 17) (lc' := [(2, .int (nI k)), (0, .ref 0), (1, .int 3368)]) (stk' := [.int 0, .int (3368 + (nI k)), .ref 1]) (mem' := fm g tp bt a' b) (fun _ _ _ => rfl) ?_
      rw [show (3368 + (nI k) : Int32) = nI (3368 + k) from by simp only [show (3368 : Int32) = nI 3368 from rfl, nI_add, fm_mul]]
      refine fe_stI (mem' := fm g tp bt (fm_u a' 1 (nI (3368 + k) : Int32).toNatClampNeg 0) b) (by rfl) (by rfl) (fx_inN (i := 3368 + k) (by omega) (by omega)) fm_si1 ?_
      rw [show Int32.toNatClampNeg (nI (3368 + k)) = 3368 + k from nI_clamp (by omega)]
      refine fe_s 2 (pc' := 2) (lc' := [(2, .int ((nI k) + 1)), (0, .ref 0), (1, .int 3368)]) (stk' := []) (mem' := fm g tp bt (fm_u a' 1 (3368 + k) 0) b) (fun _ _ _ => rfl) ?_
      rw [show ((nI k) + 1 : Int32) = nI (k + 1) from by simp only [show (1 : Int32) = nI 1 from rfl, nI_add, fm_mul]]
      refine ih (k + 1) (by omega) _ (fun t ht => by rw [fm_ut ht]; exact h1 t ht) (fun i hi => by rw [fm_u1, if_neg (by omega)]; exact h2 i hi) (fun i hi => ?_)
      rw [fm_u1]
      split
      · rfl
      · exact h3 i (by omega)
  refine fe_s 2 (pc' := 2) (lc' := [(2, .int 0), (0, .ref 0), (1, .int 3368)]) (stk' := []) (mem' := fm g tp bt a b) (fun _ _ _ => rfl) ?_
  exact loop 842 0 (by omega) a (fun _ _ => rfl) (fun _ _ => rfl) (fun i hi => absurd hi (Nat.not_lt_zero i))
theorem fr_taken {x : Int32} (hfl : fm_flt g) : ∃ (v : Option Value) (mem' : fx_M), (fun R => ∃ v : Int32, (¬ g 18 = 0 ∧ v = -1 ∧ R = (some (.int v), fm (upd (upd g 16 (g 18)) 2 9) tp bt a b) ∨ g 18 = 0 ∧ v = x ∧ R = (some (.int v), fm (upd (upd g 16 (g 18)) 2 0) tp bt a b))) (v, mem') ∧ fr_T 2 236 [.ref 0, .int x] (fm g tp bt a b) v mem' := by
  refine fe_meth (F := fun R => ∃ v : Int32, (¬ g 18 = 0 ∧ v = -1 ∧ R = (some (.int v), fm (upd (upd g 16 (g 18)) 2 9) tp bt a b) ∨ g 18 = 0 ∧ v = x ∧ R = (some (.int v), fm (upd (upd g 16 (g 18)) 2 0) tp bt a b))) (M := gk_m236) (by rfl) (by rfl) ?_
  obtain ⟨⟨n, hn, en⟩, -, -⟩ := hfl
  by_cases hz : g 18 = 0
  · refine fe_s 6 (pc' := 12) (lc' := [(0, .ref 0), (1, .int x)]) (stk' := [.int (g 18)]) (mem' := fm (upd g 16 (g 18)) tp bt a b) (fun _ _ _ => rfl) ?_
    refine fe_s 1 (pc' := cond (fx_cb .le (g 18) 0) 24 15) (lc' := [(0, .ref 0), (1, .int x)]) (stk' := []) (mem' := fm (upd g 16 (g 18)) tp bt a b) (fun _ _ _ => rfl) ?_
    rw [show (fx_cb .le (g 18) 0) = true from by show decide (g 18 ≤ 0) = true; rw [hz]; decide]
    dsimp only [cond]
    refine fe_s 2 (pc' := 26) (lc' := [(0, .ref 0), (1, .int x)]) (stk' := [.int x, .ref 0]) (mem' := fm (upd g 16 (g 18)) tp bt a b) (fun _ _ _ => rfl) ?_
    refine fe_ivV (fr_gives (x := x)) (by omega) (by rfl) (by rfl) (by rfl) (by rfl) (by rfl) (by rfl) ?_
    exact fe_ret ⟨_, Or.inr ⟨hz, rfl, rfl⟩⟩ (by rfl) (by rfl) (by rfl)
  · refine fe_s 6 (pc' := 12) (lc' := [(0, .ref 0), (1, .int x)]) (stk' := [.int (g 18)]) (mem' := fm (upd g 16 (g 18)) tp bt a b) (fun _ _ _ => rfl) ?_
    refine fe_s 1 (pc' := cond (fx_cb .le (g 18) 0) 24 15) (lc' := [(0, .ref 0), (1, .int x)]) (stk' := []) (mem' := fm (upd g 16 (g 18)) tp bt a b) (fun _ _ _ => rfl) ?_
    rw [show (fx_cb .le (g 18) 0) = false from by show decide (g 18 ≤ 0) = false; refine decide_eq_false (fun z => hz ?_); rw [en] at z ⊢; have z2 := Int32.le_iff_toInt_le.mp z; rw [nI_i32 (by omega), show ((0 : Int32).toInt) = 0 from rfl] at z2; obtain rfl : n = 0 := (by omega); rfl]
    dsimp only [cond]
    refine fe_s 2 (pc' := 18) (lc' := [(0, .ref 0), (1, .int x)]) (stk' := [.int 9, .ref 0]) (mem' := fm (upd g 16 (g 18)) tp bt a b) (fun _ _ _ => rfl) ?_
    refine fe_ivV (fr_refuse (x := 9)) (by omega) (by rfl) (by rfl) (by rfl) (by rfl) (by rfl) (by rfl) ?_
    refine fe_s 1 (pc' := 29) (lc' := [(0, .ref 0), (1, .int x)]) (stk' := [.int (-1)]) (mem' := fm (upd (upd g 16 (g 18)) 2 9) tp bt a b) (fun _ _ _ => rfl) ?_
    exact fe_ret ⟨_, Or.inl ⟨hz, rfl, rfl⟩⟩ (by rfl) (by rfl) (by rfl)
/-- what is left by a LAKE that was read, good or not -/
def fm_LK1 (g0 : Nat → Int32) (a0 : Nat → Nat → Int32) (b0 : Nat → Nat → Int64) (g' : Nat → Int32) (a' : Nat → Nat → Int32) (b' : Nat → Nat → Int64) : Prop := (∀ j, j ≠ 2 → ¬ (10 ≤ j ∧ j ≤ 20) → g' j = g0 j) ∧ g' 10 = 0 ∧ (g' 2 = 0 ∨ g' 2 = 9) ∧ (∃ S E F, fm_xp g' S E F) ∧ fm_flt g' ∧ g' 16 = g' 18 ∧ g' 19 = 0 ∧ (∀ t, t ≠ 1 → t ≠ 7 → a' t = a0 t) ∧ (∀ i, a' 7 i = a0 7 i ∨ ∃ x : Int32, a' 7 i = x.toInt8.toInt32) ∧ (∀ i, ¬ i < 842 → ¬ (3368 ≤ i ∧ i < 4210) → a' 1 i = a0 1 i) ∧ (∀ i, 3368 ≤ i → i < 4210 → (gm_at i).1 ≤ (a' 1 i).toInt ∧ (a' 1 i).toInt ≤ (gm_at i).2) ∧ fm_sy a' 3368 ∧ ((∀ i, i < 842 → a' 1 i = a0 1 i) ∨ (∀ i, i < 842 → (gm_at i).1 ≤ (a' 1 i).toInt ∧ (a' 1 i).toInt ≤ (gm_at i).2) ∧ fm_sy a' 0 ∧ a' 1 5 = 0 ∧ a' 1 6 = -1) ∧ (∀ t, t ≠ 2 → b' t = b0 t)
def fm_FL (g0 : Nat → Int32) (tp bt : Int64) (a0 : Nat → Nat → Int32) (b0 : Nat → Nat → Int64) (n : Int32) (R : Option Value × fx_M) : Prop := ∃ (v : Int32) (g' : Nat → Int32) (a' : Nat → Nat → Int32) (b' : Nat → Nat → Int64), R = (some (.int v), fm g' tp bt a' b') ∧ (¬ (0 ≤ n ∧ n ≤ g0 10 ∧ n ≤ 900) ∧ v = -1 ∧ g' = upd g0 2 1 ∧ a' = a0 ∧ b' = b0 ∨ (0 ≤ n ∧ n ≤ g0 10 ∧ n ≤ 900) ∧ fm_LK1 g0 a0 b0 g' a' b')
/-- what is so when the parts of a LAKE are read -/
def fm_LK0 (g0 : Nat → Int32) (a0 : Nat → Nat → Int32) (b0 : Nat → Nat → Int64) (g1 : Nat → Int32) (a1 : Nat → Nat → Int32) : Prop := fm_begun g0 g1 ∧ fm_tx7 a0 a1
theorem gm_at_0N : ∀ i, i < 842 → ¬ (279 ≤ i ∧ i < 318 ∧ (i - 279) % 5 = 0) → (gm_at i).1 ≤ (gm_at (3368 + i)).1 ∧ (gm_at (3368 + i)).2 ≤ (gm_at i).2 := by decide +kernel
theorem gm_at_0w : ∀ i, i < 842 → (279 ≤ i ∧ i < 318 ∧ (i - 279) % 5 = 0) → gm_at i = (0, 9) ∧ gm_at (3368 + i) = (-1, 9) := by decide +kernel
theorem fm_LK1_0 {g0 : Nat → Int32} {a0 : Nat → Nat → Int32} {b0 : Nat → Nat → Int64} {g1 g2 g3 : Nat → Int32} {a1 a2 : Nat → Nat → Int32} {b2 : Nat → Nat → Int64} {S E E2 F2 NC NW : Nat} {s : Int32} (h1 : fm_begun g0 g1) (h2 : fm_tx7 a0 a1) (h3 : fm_gx g1 g2 S E E2 F2) (h4 : fm_N a1 a2 NC NW) (h5 : ∀ t, t ≠ 2 → b2 t = b0 t) (hs : s = 0 ∨ s = 9) (e3 : g3 = upd (upd g2 16 (g2 18)) 2 s) : fm_LK1 g0 a0 b0 g3 a2 b2 := by
  subst e3
  obtain ⟨p1, p2, p3, p4, p5, p6⟩ := h1
  obtain ⟨q1, q2, q3, q4⟩ := h3
  obtain ⟨n1, n2, n3, n4, n5, n6⟩ := h4
  have hg : ∀ j, j ≠ 2 → j ≠ 16 → upd (upd g2 16 (g2 18)) 2 s j = g2 j := fun j k1 k2 => by rw [pk_un k1, pk_un k2]
  refine ⟨fun j k1 k2 => ?_, ?_, ?_, ⟨S, E2, F2, ?_⟩, ?_, ?_, ?_, fun t t1 t7 => ?_, fun i => ?_, fun i k1 k2 => ?_, n4, n5, Or.inl (fun i hi => ?_), h5⟩
  · rw [hg j k1 (by omega), q1 j (by omega) (by omega) (by omega) (by omega) (by omega) (by omega) (by omega)]
    exact p1 j (by omega) (by omega) (by omega) (by omega) (by omega) (by omega) (by omega) (by omega) (by omega)
  · rw [hg 10 (by decide) (by decide), q1 10 (by decide) (by decide) (by decide) (by decide) (by decide) (by decide) (by decide)]; exact p2
  · rw [pk_us]; exact hs
  · unfold fm_xp at q2 ⊢
    rw [hg 11 (by decide) (by decide), hg 12 (by decide) (by decide), hg 13 (by decide) (by decide), hg 14 (by decide) (by decide), hg 15 (by decide) (by decide)]
    exact q2
  · unfold fm_flt at q3 ⊢
    rw [hg 17 (by decide) (by decide), hg 18 (by decide) (by decide)]
    exact q3
  · rw [pk_un (by decide), pk_us, hg 18 (by decide) (by decide)]
  · rw [hg 19 (by decide) (by decide), q1 19 (by decide) (by decide) (by decide) (by decide) (by decide) (by decide) (by decide)]; exact p4
  · rw [n1 t t1]; exact h2.1 t t7
  · rw [n1 7 (by decide)]; exact h2.2 i
  · rw [n2 i k2, h2.1 1 (by decide)]
  · rw [n2 i (by omega), h2.1 1 (by decide)]
theorem fm_LK1_1 {g0 : Nat → Int32} {a0 : Nat → Nat → Int32} {b0 : Nat → Nat → Int64} {g3 : Nat → Int32} {a1 a2 a3 : Nat → Nat → Int32} {b2 b3 : Nat → Nat → Int64} {NC NW : Nat} (h : fm_LK1 g0 a0 b0 g3 a2 b2) (h4 : fm_N a1 a2 NC NW) (hW : fm_NW a2) (k1 : ∀ t, t ≠ 1 → a3 t = a2 t) (k2 : ∀ i, ¬ i < 842 → a3 1 i = a2 1 i) (k3 : ∀ i, i < 842 → a3 1 i = a2 1 (3368 + i)) (k4 : ∀ t, t ≠ 2 → b3 t = b2 t) : fm_LK1 g0 a0 b0 g3 a3 b3 := by
  obtain ⟨p1, p2, p3, p4, p5, p6, p7, p8, p9, p10, p11, p12, -, p14⟩ := h
  obtain ⟨n1, n2, n3, n4, n5, n6⟩ := h4
  refine ⟨p1, p2, p3, p4, p5, p6, p7, fun t t1 t7 => by rw [k1 t t1]; exact p8 t t1 t7, fun i => by rw [k1 7 (by decide)]; exact p9 i, fun i j1 j2 => by rw [k2 i j1]; exact p10 i j1 j2, fun i j1 j2 => by rw [k2 i (by omega)]; exact p11 i j1 j2, fun c d hc hd => ?_, Or.inr ⟨fun i hi => ?_, fun c d hc hd => ?_, ?_, ?_⟩, fun t ht => by rw [k4 t ht]; exact p14 t ht⟩
  · rw [k2 _ (by omega), k2 _ (by omega)]; exact p12 c d hc hd
  · rw [k3 i hi]
    obtain ⟨v1, v2⟩ := n4 (3368 + i) (by omega) (by omega)
    by_cases hw : 279 ≤ i ∧ i < 318 ∧ (i - 279) % 5 = 0
    · obtain ⟨e1, e2⟩ := gm_at_0w i hi hw
      have := hW ((i - 279) / 5) (by omega)
      rw [show 3647 + 5 * ((i - 279) / 5) = 3368 + i by omega] at this
      rw [e2] at v2
      rw [e1]
      exact ⟨this, v2⟩
    · obtain ⟨e1, e2⟩ := gm_at_0N i hi hw
      exact ⟨by omega, by omega⟩
  · rw [k3 _ (by omega), k3 _ (by omega)]
    have := n5 c d hc hd
    rw [show 3368 + 10 + 6 * c = 3368 + (0 + 10 + 6 * c) by omega, show 3368 + 10 + 6 * d = 3368 + (0 + 10 + 6 * d) by omega] at this
    exact this
  · rw [k3 5 (by omega)]
    obtain ⟨v1, v2⟩ := n4 (3368 + 5) (by omega) (by omega)
    rw [show gm_at (3368 + 5) = (0, 0) from rfl] at v1 v2
    obtain ⟨m, hm, e⟩ := nI_bd (n := 0) v1 v2
    rw [e, show m = 0 by omega]
    rfl
  · rw [k3 6 (by omega)]; exact n6
theorem la_50 {g0 g1 : Nat → Int32} {a0 a1 : Nat → Nat → Int32} {b0 : Nat → Nat → Int64} {n : Int32} {S E E2 F2 NC NW : Nat} {z : Int32} (hB : fm_begun g0 g1) (hX : fm_tx7 a0 a1) (hr : 0 ≤ n ∧ n ≤ g0 10 ∧ n ≤ 900) (hG : fm_gx g1 g S E E2 F2) (hN : fm_N a1 a NC NW) (hb : ∀ t, t ≠ 2 → b t = b0 t) (hW : g 18 = 0 → fm_NW a) : fe_R 9 gk_m246 50 [(2, .int z), (0, .ref 0), (1, .int n)] [] (fm g tp bt a b) (fm_FL g0 tp bt a0 b0 n) := by
  by_cases hz : g 18 = 0
  · refine fe_s 2 (pc' := 54) (lc' := [(2, .int z), (0, .ref 0), (1, .int n)]) (stk' := [.int (g 18)]) (mem' := fm g tp bt a b) (fun _ _ _ => rfl) ?_
    refine fe_s 1 (pc' := cond (fx_cb .ne (g 18) 0) 117 57) (lc' := [(2, .int z), (0, .ref 0), (1, .int n)]) (stk' := []) (mem' := fm g tp bt a b) (fun _ _ _ => rfl) ?_
    rw [show (fx_cb .ne (g 18) 0) = false from by rw [hz]; rfl]
    dsimp only [cond]
    have l90 : ∀ (r k : Nat), k + r = 18 → ∀ (a3 : Nat → Nat → Int32) (b3 : Nat → Nat → Int64), (∀ t, t ≠ 1 → a3 t = a t) → (∀ i, ¬ i < 842 → a3 1 i = a 1 i) → (∀ i, i < 842 → a3 1 i = a 1 (3368 + i)) → (∀ t, t ≠ 2 → b3 t = b t) → fe_R 9 gk_m246 90 [(3, .int (nI k)), (2, .int z), (0, .ref 0), (1, .int n)] [] (fm g tp bt a3 b3) (fm_FL g0 tp bt a0 b0 n) := by
      intro r
      induction r with
      | zero =>
        intro k hk a3 b3 k1 k2 k3 k4
        obtain rfl : k = 18 := by omega
        refine fe_s 2 (pc' := 93) (lc' := [(3, .int (nI 18)), (2, .int z), (0, .ref 0), (1, .int n)]) (stk' := [.int 18, .int (nI 18)]) (mem' := fm g tp bt a3 b3) (fun _ _ _ => rfl) ?_
        refine fe_s 1 (pc' := cond (fx_cb .ge (nI 18) 18) 117 96) (lc' := [(3, .int (nI 18)), (2, .int z), (0, .ref 0), (1, .int n)]) (stk' := []) (mem' := fm g tp bt a3 b3) (fun _ _ _ => rfl) ?_
        rw [show (fx_cb .ge (nI 18) 18) = true from cb_geT (a := 18) (b := 18) (by omega) (by omega) (by omega)]
        dsimp only [cond]
        refine fe_s 4 (pc' := 123) (lc' := [(3, .int (nI 18)), (2, .int z), (0, .ref 0), (1, .int n)]) (stk' := [.int 0, .ref 1, .ref 0]) (mem' := fm g tp bt a3 b3) (fun _ _ _ => rfl) ?_
        refine fe_ldI (by rfl) (by rfl) (fx_inN (i := 0) (by omega) (by omega)) ?_
        rw [show Int32.toNatClampNeg (0) = 0 from rfl]
        obtain ⟨v7, mem7, ⟨x7, hx7⟩, hfr7⟩ := fr_taken (x := a3 1 0) (g := g) (tp := tp) (bt := bt) (a := a3) (b := b3) hG.2.2.1
        obtain ⟨hn7, rfl, hR7⟩ : g 18 = 0 ∧ x7 = _ ∧ _ := by rcases hx7 with q | q; exact absurd hz q.1; exact q
        cases hR7
        refine fe_ivV hfr7 (by omega) (by rfl) (by rfl) (by rfl) (by rfl) (by rfl) (by rfl) ?_
        exact fe_ret ⟨_, _, _, _, rfl, Or.inr ⟨hr, fm_LK1_1 (fm_LK1_0 hB hX hG hN hb (Or.inl rfl) rfl) hN (hW hz) k1 k2 k3 k4⟩⟩ (by rfl) (by rfl) (by rfl)
      | succ r ih =>
        intro k hk a3 b3 k1 k2 k3 k4
        refine fe_s 2 (pc' := 93) (lc' := [(3, .int (nI k)), (2, .int z), (0, .ref 0), (1, .int n)]) (stk' := [.int 18, .int (nI k)]) (mem' := fm g tp bt a3 b3) (fun _ _ _ => rfl) ?_
        refine fe_s 1 (pc' := cond (fx_cb .ge (nI k) 18) 117 96) (lc' := [(3, .int (nI k)), (2, .int z), (0, .ref 0), (1, .int n)]) (stk' := []) (mem' := fm g tp bt a3 b3) (fun _ _ _ => rfl) ?_
        rw [show (fx_cb .ge (nI k) 18) = false from cb_geF (a := k) (b := 18) (by omega) (by omega) (by omega)]
        dsimp only [cond]
        refine fe_s 8 (pc' := 109) (lc' := [(3, .int (nI k)), (2, .int z), (0, .ref 0), (1, .int n)]) (stk' := [.int (72 + (nI k)), .ref 2, .int (nI k), .ref 2]) (mem' := fm g tp bt a3 b3) (fun _ _ _ => rfl) ?_
        rw [show (72 + (nI k) : Int32) = nI (72 + k) from by simp only [show (72 : Int32) = nI 72 from rfl, nI_add, fm_mul]]
        refine fe_ldL (by rfl) (by rfl) (fx_inN (i := 72 + k) (by omega) (by omega)) ?_
        rw [show Int32.toNatClampNeg (nI (72 + k)) = 72 + k from nI_clamp (by omega)]
        refine fe_stL (mem' := fm g tp bt a3 (fm_uL b3 2 (nI k : Int32).toNatClampNeg (b3 2 (72 + k)))) (by rfl) (by rfl) (fx_inN (i := k) (by omega) (by omega)) fm_sl2 ?_
        rw [show Int32.toNatClampNeg (nI k) = k from nI_clamp (by omega)]
        refine fe_s 2 (pc' := 90) (lc' := [(3, .int ((nI k) + 1)), (2, .int z), (0, .ref 0), (1, .int n)]) (stk' := []) (mem' := fm g tp bt a3 (fm_uL b3 2 k (b3 2 (72 + k)))) (fun _ _ _ => rfl) ?_
        rw [show ((nI k) + 1 : Int32) = nI (k + 1) from by simp only [show (1 : Int32) = nI 1 from rfl, nI_add, fm_mul]]
        refine fe_w (lc' := [(3, .int (nI (k + 1))), (2, .int z), (0, .ref 0), (1, .int n)]) ⟨rfl, rfl, rfl, rfl, trivial⟩ (by show List.Nodup [3, 2, 0, 1]; decide) (by show List.Nodup [3, 2, 0, 1]; decide) (ih (k + 1) (by omega) a3 _ k1 k2 k3 (fun t ht => by rw [fm_uL_t ht]; exact k4 t ht))
    have l59 : ∀ (r k : Nat), k + r = 842 → ∀ a3 : Nat → Nat → Int32, (∀ t, t ≠ 1 → a3 t = a t) → (∀ i, ¬ i < k → a3 1 i = a 1 i) → (∀ i, i < k → a3 1 i = a 1 (3368 + i)) → fe_R 9 gk_m246 59 [(3, .int (nI k)), (2, .int z), (0, .ref 0), (1, .int n)] [] (fm g tp bt a3 b) (fm_FL g0 tp bt a0 b0 n) := by
      intro r
      induction r with
      | zero =>
        intro k hk a3 k1 k2 k3
        obtain rfl : k = 842 := by omega
        refine fe_s 2 (pc' := 63) (lc' := [(3, .int (nI 842)), (2, .int z), (0, .ref 0), (1, .int n)]) (stk' := [.int 842, .int (nI 842)]) (mem' := fm g tp bt a3 b) (fun _ _ _ => rfl) ?_
        refine fe_s 1 (pc' := cond (fx_cb .ge (nI 842) 842) 88 66) (lc' := [(3, .int (nI 842)), (2, .int z), (0, .ref 0), (1, .int n)]) (stk' := []) (mem' := fm g tp bt a3 b) (fun _ _ _ => rfl) ?_
        rw [show (fx_cb .ge (nI 842) 842) = true from cb_geT (a := 842) (b := 842) (by omega) (by omega) (by omega)]
        dsimp only [cond]
        refine fe_s 2 (pc' := 90) (lc' := [(3, .int 0), (2, .int z), (0, .ref 0), (1, .int n)]) (stk' := []) (mem' := fm g tp bt a3 b) (fun _ _ _ => rfl) ?_
        refine fe_w (lc' := [(3, .int (nI 0)), (2, .int z), (0, .ref 0), (1, .int n)]) ⟨rfl, rfl, rfl, rfl, trivial⟩ (by show List.Nodup [3, 2, 0, 1]; decide) (by show List.Nodup [3, 2, 0, 1]; decide) (l90 18 0 (by omega) a3 b k1 k2 k3 (fun _ _ => rfl))
      | succ r ih =>
        intro k hk a3 k1 k2 k3
        refine fe_s 2 (pc' := 63) (lc' := [(3, .int (nI k)), (2, .int z), (0, .ref 0), (1, .int n)]) (stk' := [.int 842, .int (nI k)]) (mem' := fm g tp bt a3 b) (fun _ _ _ => rfl) ?_
        refine fe_s 1 (pc' := cond (fx_cb .ge (nI k) 842) 88 66) (lc' := [(3, .int (nI k)), (2, .int z), (0, .ref 0), (1, .int n)]) (stk' := []) (mem' := fm g tp bt a3 b) (fun _ _ _ => rfl) ?_
        rw [show (fx_cb .ge (nI k) 842) = false from cb_geF (a := k) (b := 842) (by omega) (by omega) (by omega)]
        dsimp only [cond]
        refine fe_s 8 (pc' := 80) (lc' := [(3, .int (nI k)), (2, .int z), (0, .ref 0), (1, .int n)]) (stk' := [.int (3368 + (nI k)), .ref 1, .int (nI k), .ref 1]) (mem' := fm g tp bt a3 b) (fun _ _ _ => rfl) ?_
        rw [show (3368 + (nI k) : Int32) = nI (3368 + k) from by simp only [show (3368 : Int32) = nI 3368 from rfl, nI_add, fm_mul]]
        refine fe_ldI (by rfl) (by rfl) (fx_inN (i := 3368 + k) (by omega) (by omega)) ?_
        rw [show Int32.toNatClampNeg (nI (3368 + k)) = 3368 + k from nI_clamp (by omega)]
        refine fe_stI (mem' := fm g tp bt (fm_u a3 1 (nI k : Int32).toNatClampNeg (a3 1 (3368 + k))) b) (by rfl) (by rfl) (fx_inN (i := k) (by omega) (by omega)) fm_si1 ?_
        rw [show Int32.toNatClampNeg (nI k) = k from nI_clamp (by omega)]
        refine fe_s 2 (pc' := 59) (lc' := [(3, .int ((nI k) + 1)), (2, .int z), (0, .ref 0), (1, .int n)]) (stk' := []) (mem' := fm g tp bt (fm_u a3 1 k (a3 1 (3368 + k))) b) (fun _ _ _ => rfl) ?_
        rw [show ((nI k) + 1 : Int32) = nI (k + 1) from by simp only [show (1 : Int32) = nI 1 from rfl, nI_add, fm_mul]]
        refine ih (k + 1) (by omega) _ (fun t ht => by rw [fm_ut ht]; exact k1 t ht) (fun i hi => by rw [fm_u1, if_neg (by omega)]; exact k2 i (by omega)) (fun i hi => ?_)
        rw [fm_u1]
        split
        · next e => rw [e, k2 (3368 + k) (by omega)]
        · exact k3 i (by omega)
    refine fe_s 2 (pc' := 59) (lc' := [(3, .int 0), (2, .int z), (0, .ref 0), (1, .int n)]) (stk' := []) (mem' := fm g tp bt a b) (fun _ _ _ => rfl) ?_
    refine fe_w (lc' := [(3, .int (nI 0)), (2, .int z), (0, .ref 0), (1, .int n)]) ⟨rfl, rfl, rfl, rfl, trivial⟩ (by show List.Nodup [3, 2, 0, 1]; decide) (by show List.Nodup [3, 2, 0, 1]; decide) (l59 842 0 (by omega) a (fun _ _ => rfl) (fun _ _ => rfl) (fun i hi => absurd hi (Nat.not_lt_zero i)))
  · refine fe_s 2 (pc' := 54) (lc' := [(2, .int z), (0, .ref 0), (1, .int n)]) (stk' := [.int (g 18)]) (mem' := fm g tp bt a b) (fun _ _ _ => rfl) ?_
    refine fe_s 1 (pc' := cond (fx_cb .ne (g 18) 0) 117 57) (lc' := [(2, .int z), (0, .ref 0), (1, .int n)]) (stk' := []) (mem' := fm g tp bt a b) (fun _ _ _ => rfl) ?_
    rw [show (fx_cb .ne (g 18) 0) = true from by show (!decide (g 18 = 0)) = true; rw [decide_eq_false hz]; rfl]
    dsimp only [cond]
    refine fe_s 4 (pc' := 123) (lc' := [(2, .int z), (0, .ref 0), (1, .int n)]) (stk' := [.int 0, .ref 1, .ref 0]) (mem' := fm g tp bt a b) (fun _ _ _ => rfl) ?_
    refine fe_ldI (by rfl) (by rfl) (fx_inN (i := 0) (by omega) (by omega)) ?_
    rw [show Int32.toNatClampNeg (0) = 0 from rfl]
    obtain ⟨v7, mem7, ⟨x7, hx7⟩, hfr7⟩ := fr_taken (x := a 1 0) (g := g) (tp := tp) (bt := bt) (a := a) (b := b) hG.2.2.1
    obtain ⟨hn7, rfl, hR7⟩ : ¬ g 18 = 0 ∧ x7 = -1 ∧ _ := by rcases hx7 with q | q; exact q; exact absurd q.1 hz
    cases hR7
    refine fe_ivV hfr7 (by omega) (by rfl) (by rfl) (by rfl) (by rfl) (by rfl) (by rfl) ?_
    exact fe_ret ⟨_, _, _, _, rfl, Or.inr ⟨hr, fm_LK1_0 hB hX hG hN hb (Or.inr rfl) rfl⟩⟩ (by rfl) (by rfl) (by rfl)
theorem la_t0 {g0 g1 : Nat → Int32} {a0 a1 : Nat → Nat → Int32} {b0 : Nat → Nat → Int64} {n : Int32} {S E E2 F2 NC NW : Nat} (hB : fm_begun g0 g1) (hX : fm_tx7 a0 a1) (hr : 0 ≤ n ∧ n ≤ g0 10 ∧ n ≤ 900) (hG : fm_gx g1 g S E E2 F2) (hN : fm_N a1 a NC NW) (hb : ∀ t, t ≠ 2 → b t = b0 t) (hW : fm_NW a) (h0 : g 12 = 0) : fe_R 9 gk_m246 31 [(2, .int 1), (0, .ref 0), (1, .int n)] [] (fm g tp bt a b) (fm_FL g0 tp bt a0 b0 n) := by
  refine fe_s 1 (pc' := 32) (lc' := [(2, .int 1), (0, .ref 0), (1, .int n)]) (stk' := [.int 1]) (mem' := fm g tp bt a b) (fun _ _ _ => rfl) ?_
  refine fe_s 1 (pc' := 35) (lc' := [(2, .int 1), (0, .ref 0), (1, .int n)]) (stk' := []) (mem' := fm g tp bt a b) (fun _ _ _ => rfl) ?_
  refine fe_s 2 (pc' := 39) (lc' := [(2, .int 1), (0, .ref 0), (1, .int n)]) (stk' := [.int (g 12)]) (mem' := fm g tp bt a b) (fun _ _ _ => rfl) ?_
  refine fe_s 1 (pc' := cond (fx_cb .eq (g 12) 0) 50 42) (lc' := [(2, .int 1), (0, .ref 0), (1, .int n)]) (stk' := []) (mem' := fm g tp bt a b) (fun _ _ _ => rfl) ?_
  rw [show (fx_cb .eq (g 12) 0) = true from decide_eq_true h0]
  dsimp only [cond]
  exact la_50 hB hX hr hG hN hb (fun _ => hW)
theorem la_31 {g0 g1 : Nat → Int32} {a0 a1 : Nat → Nat → Int32} {b0 : Nat → Nat → Int64} {n : Int32} (hB : fm_begun g0 g1) (hX : fm_tx7 a0 a1) (hr : 0 ≤ n ∧ n ≤ g0 10 ∧ n ≤ 900) {E0 : Nat} : ∀ (r : Nat) {S E F NC NW : Nat} {g : Nat → Int32} {a : Nat → Nat → Int32} {b : Nat → Nat → Int64}, S - E < r → fm_gx g1 g S E0 E F → fm_N a1 a NC NW → fm_NW a → (∀ t, t ≠ 2 → b t = b0 t) → g 18 = 0 → fe_R 9 gk_m246 31 [(2, .int 1), (0, .ref 0), (1, .int n)] [] (fm g tp bt a b) (fm_FL g0 tp bt a0 b0 n) := by
  intro r
  induction r with
  | zero => intro S E F NC NW g a b h; exact absurd h (Nat.not_lt_zero _)
  | succ r ih =>
    intro S E F NC NW g a b hr9 hG hN hW hb hz
    obtain ⟨⟨tk, htk, etk⟩, -, -⟩ := hG.2.1.2.2.2.2.2.2
    by_cases h0 : g 12 = 0
    · refine fe_s 1 (pc' := 32) (lc' := [(2, .int 1), (0, .ref 0), (1, .int n)]) (stk' := [.int 1]) (mem' := fm g tp bt a b) (fun _ _ _ => rfl) ?_
      refine fe_s 1 (pc' := cond (fx_cb .eq 1 0) 50 35) (lc' := [(2, .int 1), (0, .ref 0), (1, .int n)]) (stk' := []) (mem' := fm g tp bt a b) (fun _ _ _ => rfl) ?_
      rw [show (fx_cb .eq 1 0) = false from by decide]
      dsimp only [cond]
      refine fe_s 2 (pc' := 39) (lc' := [(2, .int 1), (0, .ref 0), (1, .int n)]) (stk' := [.int (g 12)]) (mem' := fm g tp bt a b) (fun _ _ _ => rfl) ?_
      refine fe_s 1 (pc' := cond (fx_cb .eq (g 12) 0) 50 42) (lc' := [(2, .int 1), (0, .ref 0), (1, .int n)]) (stk' := []) (mem' := fm g tp bt a b) (fun _ _ _ => rfl) ?_
      rw [show (fx_cb .eq (g 12) 0) = true from decide_eq_true h0]
      dsimp only [cond]
      exact la_50 hB hX hr hG hN hb (fun _ => hW)
    · refine fe_s 1 (pc' := 32) (lc' := [(2, .int 1), (0, .ref 0), (1, .int n)]) (stk' := [.int 1]) (mem' := fm g tp bt a b) (fun _ _ _ => rfl) ?_
      refine fe_s 1 (pc' := cond (fx_cb .eq 1 0) 50 35) (lc' := [(2, .int 1), (0, .ref 0), (1, .int n)]) (stk' := []) (mem' := fm g tp bt a b) (fun _ _ _ => rfl) ?_
      rw [show (fx_cb .eq 1 0) = false from by decide]
      dsimp only [cond]
      refine fe_s 2 (pc' := 39) (lc' := [(2, .int 1), (0, .ref 0), (1, .int n)]) (stk' := [.int (g 12)]) (mem' := fm g tp bt a b) (fun _ _ _ => rfl) ?_
      refine fe_s 1 (pc' := cond (fx_cb .eq (g 12) 0) 50 42) (lc' := [(2, .int 1), (0, .ref 0), (1, .int n)]) (stk' := []) (mem' := fm g tp bt a b) (fun _ _ _ => rfl) ?_
      rw [show (fx_cb .eq (g 12) 0) = false from decide_eq_false h0]
      dsimp only [cond]
      refine fe_s 1 (pc' := 43) (lc' := [(2, .int 1), (0, .ref 0), (1, .int n)]) (stk' := [.ref 0]) (mem' := fm g tp bt a b) (fun _ _ _ => rfl) ?_
      obtain ⟨v5, mem5, ⟨x5, g5, E5, F5, a5, b5, NC5, NW5, ho5, hb5, hN5, hv5, hR5⟩, hfr5⟩ := fr_lakePart (g := g) (tp := tp) (bt := bt) (a := a) (b := b) (a0 := a1) hG.2.1 hG.2.2.1 hN hW
      cases hR5
      have hbb : ∀ t, t ≠ 2 → b5 t = b0 t := fun t ht => (hb5 t ht).trans (hb t ht)
      have hG5 := fm_gx_tx hG ho5
      refine fe_ivV hfr5 (by omega) (by rfl) (by rfl) (by rfl) (by rfl) (by rfl) (by rfl) ?_
      rcases hv5 with ⟨rfl, hz5⟩ | ⟨rfl, he5, hp5, hW5⟩
      · refine fe_s 2 (pc' := 31) (lc' := [(2, .int 0), (0, .ref 0), (1, .int n)]) (stk' := []) (mem' := fm g5 tp bt a5 b5) (fun _ _ _ => rfl) ?_
        refine fe_w (lc' := [(2, .int 0), (0, .ref 0), (1, .int n)]) ⟨rfl, rfl, rfl, trivial⟩ (by show List.Nodup [2, 0, 1]; decide) (by show List.Nodup [2, 0, 1]; decide) ?_
        refine fe_s 1 (pc' := 32) (lc' := [(2, .int 0), (0, .ref 0), (1, .int n)]) (stk' := [.int 0]) (mem' := fm g5 tp bt a5 b5) (fun _ _ _ => rfl) ?_
        refine fe_s 1 (pc' := 50) (lc' := [(2, .int 0), (0, .ref 0), (1, .int n)]) (stk' := []) (mem' := fm g5 tp bt a5 b5) (fun _ _ _ => rfl) ?_
        exact la_50 hB hX hr hG5 hN5 hbb (fun q => absurd q hz5)
      · refine fe_s 2 (pc' := 31) (lc' := [(2, .int 1), (0, .ref 0), (1, .int n)]) (stk' := []) (mem' := fm g5 tp bt a5 b5) (fun _ _ _ => rfl) ?_
        refine fe_w (lc' := [(2, .int 1), (0, .ref 0), (1, .int n)]) ⟨rfl, rfl, rfl, trivial⟩ (by show List.Nodup [2, 0, 1]; decide) (by show List.Nodup [2, 0, 1]; decide) ?_
        have h9 : r = 0 ∨ 0 < r := Nat.eq_zero_or_pos r
        rcases hp5 with hq5 | hq5
        · exact la_t0 hB hX hr hG5 hN5 hbb hW5 hq5
        · exact ih (by have := ho5.2.1.2.2.2.1; omega) hG5 hN5 hW5 hbb (he5.trans hz)
theorem fr_lake {n : Int32} (hT : ∃ T, T ≤ 900 ∧ g 10 = nI T) : ∃ (v : Option Value) (mem' : fx_M), (fm_FL g tp bt a b n) (v, mem') ∧ fr_T 10 246 [.ref 0, .int n] (fm g tp bt a b) v mem' := by
  refine fe_meth (F := fm_FL g tp bt a b n) (M := gk_m246) (by rfl) (by rfl) ?_
  refine fe_s 3 (pc' := 5) (lc' := [(0, .ref 0), (1, .int n)]) (stk' := [.int 900, .int n, .ref 0]) (mem' := fm g tp bt a b) (fun _ _ _ => rfl) ?_
  obtain ⟨v5, mem5, ⟨x5, g5, a5, hR5, hv5⟩, hfr5⟩ := fr_begins (n := n) (most := 900) (g := g) (tp := tp) (bt := bt) (a := a) (b := b) hT
  cases hR5
  refine fe_ivV hfr5 (by omega) (by rfl) (by rfl) (by rfl) (by rfl) (by rfl) (by rfl) ?_
  rcases hv5 with ⟨rfl, rfl, rfl, hn5⟩ | ⟨rfl, hr5, hB5, hX5⟩
  · refine fe_s 1 (pc' := cond (fx_cb .ne 0 0) 17 11) (lc' := [(0, .ref 0), (1, .int n)]) (stk' := []) (mem' := fm g5 tp bt a5 b) (fun _ _ _ => rfl) ?_
    rw [show (fx_cb .ne 0 0) = false from by decide]
    dsimp only [cond]
    refine fe_s 2 (pc' := 13) (lc' := [(0, .ref 0), (1, .int n)]) (stk' := [.int 1, .ref 0]) (mem' := fm g5 tp bt a5 b) (fun _ _ _ => rfl) ?_
    refine fe_ivV (fr_refuse (x := 1)) (by omega) (by rfl) (by rfl) (by rfl) (by rfl) (by rfl) (by rfl) ?_
    exact fe_ret ⟨_, _, _, _, rfl, Or.inl ⟨hn5, rfl, rfl, rfl, rfl⟩⟩ (by rfl) (by rfl) (by rfl)
  · refine fe_s 1 (pc' := cond (fx_cb .ne 1 0) 17 11) (lc' := [(0, .ref 0), (1, .int n)]) (stk' := []) (mem' := fm g5 tp bt a5 b) (fun _ _ _ => rfl) ?_
    rw [show (fx_cb .ne 1 0) = true from by decide]
    dsimp only [cond]
    refine fe_s 2 (pc' := 21) (lc' := [(0, .ref 0), (1, .int n)]) (stk' := [.int 3368, .ref 0]) (mem' := fm g5 tp bt a5 b) (fun _ _ _ => rfl) ?_
    obtain ⟨v6, mem6, ⟨a6, hp6, hR6⟩, hfr6⟩ := fr_plain (g := g5) (tp := tp) (bt := bt) (a := a5) (b := b)
    cases hR6
    refine fe_ivV hfr6 (by omega) (by rfl) (by rfl) (by rfl) (by rfl) (by rfl) (by rfl) ?_
    refine fe_s 5 (pc' := 31) (lc' := [(2, .int 1), (0, .ref 0), (1, .int n)]) (stk' := []) (mem' := fm (upd g5 20 0) tp bt a6 b) (fun _ _ _ => rfl) ?_
    refine fe_w (lc' := [(2, .int 1), (0, .ref 0), (1, .int n)]) ⟨rfl, rfl, rfl, trivial⟩ (by show List.Nodup [2, 0, 1]; decide) (by show List.Nodup [2, 0, 1]; decide) ?_
    obtain ⟨hN6, hW6⟩ := fm_pln_N hp6
    obtain ⟨S, E, F, hx5⟩ := hB5.2.2.2.2.1
    exact la_31 hB5 hX5 hr5 (S - E + 1) (by omega) (fm_gx_up (fm_gx_rf hx5 hB5.2.2.2.2.2) (by decide)) hN6 hW6 (fun _ _ => rfl) ((pk_un (by decide)).trans hB5.2.2.1)
end FLQ
