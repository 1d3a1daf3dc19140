/-! ===== mean: where it is not refused, both sides ===== -/
/-- not refused: t, that there are TALES -/
def meQ (t : Prop) (x y : Int32) : Prop := (0 ≤ x.toInt ∧ x.toInt ≤ 9999) ∧ (1 ≤ y.toInt ∧ y.toInt ≤ 20) ∧ x.toInt + y.toInt ≤ 10000 ∧ t
section MEX1
variable {g : Nat → Nat → Int32} {l : Nat → Nat → Int64} {a : Nat → Nat → Int32} {b : Nat → Nat → Int64} {R : fx_M}
theorem ha_deny0 {x : Int32} : hr_T 1 189 [.ref 0, .int x] (cm g l a b R) (some (.int 0)) (cm (fm_u g 0 0 x) l a b R) := by
  refine hr_meth (by rfl) (by rfl) ?_
  refine hr_s 4 (pc' := 6) (lc' := [(0, .ref 0), (1, .int x)]) (stk' := [.int 0]) (mem' := cm (fm_u g 0 0 x) l a b R) (by intro _ _ _; eq_refl) ?_
  exact hr_ret (by rfl) (by rfl) (by rfl)
theorem hl_meanN {x y : Int32} (hz : g 34 7 = 0 ∨ g 34 7 = 1) (h : ¬ meQ (g 34 7 = 1) x y) : ∃ st : Int32, hr_T 2 183 [.ref 0, .int x, .int y] (cm g l a b R) (some (.int 0)) (cm (fm_u g 0 0 st) l a b R) := by
  have bad : hr_R 1 gk_m183 33 [(0, .ref 0), (1, .int x), (2, .int y)] [] (cm g l a b R) (some (.int 0), cm (fm_u g 0 0 1) l a b R) := by
    refine hr_s 2 (pc' := 35) (lc' := [(0, .ref 0), (1, .int x), (2, .int y)]) (stk' := [.int 1, .ref 0]) (mem' := cm g l a b R) (by intro _ _ _; eq_refl) ?_
    refine hr_ivV ha_deny0 (by omega) (by rfl) (by rfl) (by rfl) (by rfl) (by rfl) (by rfl) ?_
    exact hr_ret (by rfl) (by rfl) (by rfl)
  have bad6 : hr_R 1 gk_m183 52 [(0, .ref 0), (1, .int x), (2, .int y)] [] (cm g l a b R) (some (.int 0), cm (fm_u g 0 0 6) l a b R) := by
    refine hr_s 2 (pc' := 55) (lc' := [(0, .ref 0), (1, .int x), (2, .int y)]) (stk' := [.int 6, .ref 0]) (mem' := cm g l a b R) (by intro _ _ _; eq_refl) ?_
    refine hr_ivV ha_deny0 (by omega) (by rfl) (by rfl) (by rfl) (by rfl) (by rfl) (by rfl) ?_
    exact hr_ret (by rfl) (by rfl) (by rfl)
  have fin : ∃ st : Int32, hr_R 1 gk_m183 0 [(0, .ref 0), (1, .int x), (2, .int y)] [] (cm g l a b R) (some (.int 0), cm (fm_u g 0 0 st) l a b R) := by
    by_cases q : (0 ≤ x.toInt ∧ x.toInt ≤ 9999) ∧ (1 ≤ y.toInt ∧ y.toInt ≤ 20) ∧ x.toInt + y.toInt ≤ 10000
    · obtain ⟨⟨q1, q2⟩, ⟨q3, q4⟩, q5⟩ := q
      have ez : g 34 7 = 0 := hz.resolve_right (fun z => h ⟨⟨q1, q2⟩, ⟨q3, q4⟩, q5, z⟩)
      obtain ⟨s, hs, rfl⟩ := nI_bd (x := x) (n := 9999) q1 q2
      obtain ⟨m, hm, rfl⟩ := nI_bd (x := y) (n := 20) (by omega) q4
      rw [nI_i32 (by omega)] at q3 q5
      rw [nI_i32 (by omega)] at q5
      refine ⟨6, ?_⟩
      refine hr_s 2 (pc' := cond (fx_cb .lt (nI s) 0) 33 4) (lc' := [(0, .ref 0), (1, .int (nI s)), (2, .int (nI m))]) (stk' := []) (mem' := cm g l a b R) (by intro _ _ _; eq_refl) ?_
      rw [show fx_cb .lt (nI s) 0 = false from cb_ltF (a := s) (b := 0) (by omega) (by omega) (by omega)]
      dsimp only [cond]
      refine hr_s 2 (pc' := 8) (lc' := [(0, .ref 0), (1, .int (nI s)), (2, .int (nI m))]) (stk' := [.int 9999, .int (nI s)]) (mem' := cm g l a b R) (by intro _ _ _; eq_refl) ?_
      refine hr_s 1 (pc' := cond (fx_cb .gt (nI s) 9999) 33 11) (lc' := [(0, .ref 0), (1, .int (nI s)), (2, .int (nI m))]) (stk' := []) (mem' := cm g l a b R) (by intro _ _ _; eq_refl) ?_
      rw [show fx_cb .gt (nI s) 9999 = false from cb_gtF (a := s) (b := 9999) (by omega) (by omega) (by omega)]
      dsimp only [cond]
      refine hr_s 3 (pc' := cond (fx_cb .lt (nI m) 1) 33 16) (lc' := [(0, .ref 0), (1, .int (nI s)), (2, .int (nI m))]) (stk' := []) (mem' := cm g l a b R) (by intro _ _ _; eq_refl) ?_
      rw [show fx_cb .lt (nI m) 1 = false from cb_ltF (a := m) (b := 1) (by omega) (by omega) (by omega)]
      dsimp only [cond]
      refine hr_s 2 (pc' := 19) (lc' := [(0, .ref 0), (1, .int (nI s)), (2, .int (nI m))]) (stk' := [.int 20, .int (nI m)]) (mem' := cm g l a b R) (by intro _ _ _; eq_refl) ?_
      refine hr_s 1 (pc' := cond (fx_cb .gt (nI m) 20) 33 22) (lc' := [(0, .ref 0), (1, .int (nI s)), (2, .int (nI m))]) (stk' := []) (mem' := cm g l a b R) (by intro _ _ _; eq_refl) ?_
      rw [show fx_cb .gt (nI m) 20 = false from cb_gtF (a := m) (b := 20) (by omega) (by omega) (by omega)]
      dsimp only [cond]
      refine hr_s 6 (pc' := 30) (lc' := [(0, .ref 0), (1, .int (nI s)), (2, .int (nI m))]) (stk' := [.int 9999, .int (((nI s) + (nI m)) - 1)]) (mem' := cm g l a b R) (by intro _ _ _; eq_refl) ?_
      rw [show ((nI s) + (nI m)) - 1 = nI ((s + m) - 1) from by simp only [show (1 : Int32) = nI 1 from rfl, tg_sub2 (x := s + m) (y := 1) (by omega), nI_add, fm_mul]]
      refine hr_s 1 (pc' := cond (fx_cb .le (nI ((s + m) - 1)) 9999) 39 33) (lc' := [(0, .ref 0), (1, .int (nI s)), (2, .int (nI m))]) (stk' := []) (mem' := cm g l a b R) (by intro _ _ _; eq_refl) ?_
      rw [show (fx_cb .le (nI ((s + m) - 1)) 9999) = true from cb_leT (a := (s + m) - 1) (b := 9999) (by omega) (by omega) (by omega)]
      dsimp only [cond]
      refine hr_s 5 (pc' := cond (fx_cb .ne (g 34 7) 0) 59 52) (lc' := [(0, .ref 0), (1, .int (nI s)), (2, .int (nI m))]) (stk' := []) (mem' := cm g l a b R) (by intro _ _ _; eq_refl) ?_
      rw [ez, show fx_cb .ne 0 0 = false from by decide]
      dsimp only [cond]
      exact bad6
    · refine ⟨1, ?_⟩
      refine hr_s 2 (pc' := cond (fx_cb .lt x 0) 33 4) (lc' := [(0, .ref 0), (1, .int x), (2, .int y)]) (stk' := []) (mem' := cm g l a b R) (by intro _ _ _; eq_refl) ?_
      cases h1 : fx_cb .lt x 0
      · have q1 : (0 : Int) ≤ x.toInt := tc_ltF h1
        dsimp only [cond]
        refine hr_s 2 (pc' := 8) (lc' := [(0, .ref 0), (1, .int x), (2, .int y)]) (stk' := [.int 9999, .int x]) (mem' := cm g l a b R) (by intro _ _ _; eq_refl) ?_
        refine hr_s 1 (pc' := cond (fx_cb .gt x 9999) 33 11) (lc' := [(0, .ref 0), (1, .int x), (2, .int y)]) (stk' := []) (mem' := cm g l a b R) (by intro _ _ _; eq_refl) ?_
        cases h2 : fx_cb .gt x 9999
        · have q2 : x.toInt ≤ (9999 : Int) := tc_gtF h2
          dsimp only [cond]
          refine hr_s 3 (pc' := cond (fx_cb .lt y 1) 33 16) (lc' := [(0, .ref 0), (1, .int x), (2, .int y)]) (stk' := []) (mem' := cm g l a b R) (by intro _ _ _; eq_refl) ?_
          cases h3 : fx_cb .lt y 1
          · have q3 : (1 : Int) ≤ y.toInt := tc_ltF h3
            dsimp only [cond]
            refine hr_s 2 (pc' := 19) (lc' := [(0, .ref 0), (1, .int x), (2, .int y)]) (stk' := [.int 20, .int y]) (mem' := cm g l a b R) (by intro _ _ _; eq_refl) ?_
            refine hr_s 1 (pc' := cond (fx_cb .gt y 20) 33 22) (lc' := [(0, .ref 0), (1, .int x), (2, .int y)]) (stk' := []) (mem' := cm g l a b R) (by intro _ _ _; eq_refl) ?_
            cases h4 : fx_cb .gt y 20
            · have q4 : y.toInt ≤ (20 : Int) := tc_gtF h4
              obtain ⟨s, hs, rfl⟩ := nI_bd (x := x) (n := 9999) q1 q2
              obtain ⟨m, hm, rfl⟩ := nI_bd (x := y) (n := 20) (by omega) q4
              have h1m : 1 ≤ m := by
                rw [nI_i32 (by omega)] at q3
                omega
              have q5 : ¬ (s + m) - 1 ≤ 9999 := fun z => q ⟨⟨q1, q2⟩, ⟨q3, q4⟩, by
                rw [nI_i32 (by omega)] at q3
                rw [nI_i32 (by omega), nI_i32 (by omega)]
                omega⟩
              dsimp only [cond]
              refine hr_s 6 (pc' := 30) (lc' := [(0, .ref 0), (1, .int (nI s)), (2, .int (nI m))]) (stk' := [.int 9999, .int (((nI s) + (nI m)) - 1)]) (mem' := cm g l a b R) (by intro _ _ _; eq_refl) ?_
              rw [show ((nI s) + (nI m)) - 1 = nI ((s + m) - 1) from by simp only [show (1 : Int32) = nI 1 from rfl, tg_sub2 (x := s + m) (y := 1) (by omega), nI_add, fm_mul]]
              refine hr_s 1 (pc' := cond (fx_cb .le (nI ((s + m) - 1)) 9999) 39 33) (lc' := [(0, .ref 0), (1, .int (nI s)), (2, .int (nI m))]) (stk' := []) (mem' := cm g l a b R) (by intro _ _ _; eq_refl) ?_
              rw [show (fx_cb .le (nI ((s + m) - 1)) 9999) = false from cb_leF (a := (s + m) - 1) (b := 9999) (by omega) (by omega) (by omega)]
              dsimp only [cond]
              exact bad
            · exact bad
          · exact bad
        · exact bad
      · exact bad
  obtain ⟨st, hr⟩ := fin
  exact ⟨st, hr_meth (by rfl) (by rfl) hr⟩
end MEX1
def fm_PZq (q : Prop) (g : Nat → Int32) (tp bt : Int64) (a : Nat → Nat → Int32) (b : Nat → Nat → Int64) (R : Option Value × fx_M) : Prop := ∃ (v : Int32) (g' : Nat → Int32) (tp' bt' : Int64) (a' : Nat → Nat → Int32) (b' : Nat → Nat → Int64), (v = 0 ∧ ¬ q ∨ v = 1 ∧ q) ∧ fm_E a a' ∧ fm_G g g' ∧ (∀ t, t ≠ 17 → t ≠ 18 → b' t = b t) ∧ R = (some (.int v), fm g' tp' bt' a' b')
section MEX2
variable {g : Nat → Int32} {tp bt : Int64} {a : Nat → Nat → Int32} {b : Nat → Nat → Int64}
set_option maxRecDepth 20000 in
theorem fr_meanV {sd my : Int32} {tt : Prop} (ht : tt ↔ 0 ≤ (a 1 6).toInt) (hBa : fm_B a) (hgb : fm_gb g) : ∃ (v : Option Value) (mem' : fx_M), (fm_PZq (meQ tt sd my) g tp bt a b) (v, mem') ∧ fr_T 14 368 [.ref 0, .int sd, .int my] (fm g tp bt a b) v mem' := by
  have hG := fm_G_rf hgb
  refine fe_meth (F := fm_PZq (meQ tt sd my) g tp bt a b) (M := gk_m368) (by rfl) (by rfl) ?_
  refine fe_s 4 (pc' := 6) (lc' := [(0, .ref 0), (1, .int sd), (2, .int my)]) (stk' := [.long 9999, .long (0 : Int64), .long (sd.toInt64)]) (mem' := fm g tp bt a b) (by intro _ _ _; eq_refl) ?_
  obtain ⟨vf1, memf1, ⟨xf1, hxf1, hRf1⟩, hfrf1⟩ := fr_isFrom (v := sd.toInt64) (l := (0 : Int64)) (m := 9999) (mem := fm g tp bt a b)
  cases hRf1
  refine fe_ivS hfrf1 (by omega) (by rfl) (by rfl) (by rfl) (by rfl) (by rfl) ?_
  rcases hxf1 with ⟨rfl, hn1⟩ | ⟨rfl, hlf1, hmf1⟩
  · refine fe_s 1 (pc' := cond (fx_cb .eq 0 0) 35 12) (lc' := [(0, .ref 0), (1, .int sd), (2, .int my)]) (stk' := []) (mem' := fm g tp bt a b) (by intro _ _ _; eq_refl) ?_
    rw [show (fx_cb .eq 0 0) = true from by decide]
    dsimp only [cond]
    refine fe_s 2 (pc' := 37) (lc' := [(0, .ref 0), (1, .int sd), (2, .int my)]) (stk' := [.int 1, .ref 0]) (mem' := fm g tp bt a b) (by intro _ _ _; eq_refl) ?_
    refine fe_ivV fr_isx1 (by omega) (by rfl) (by rfl) (by rfl) (by rfl) (by rfl) (by rfl) ?_
    exact fe_ret ⟨_, _, _, _, _, _, Or.inl ⟨rfl, fun q => hn1 ⟨by rw [Int32.toInt_toInt64]; exact q.1.1, by rw [Int32.toInt_toInt64]; exact q.1.2⟩⟩, (fm_E_rf hBa), (fm_G_2 hG (by decide) (by decide)), (fun _ _ _ => rfl), rfl⟩ (by rfl) (by rfl) (by rfl)
  · obtain ⟨s, hs, rfl⟩ : ∃ qq, qq ≤ 9999 ∧ sd = nI qq := by
      rw [Int32.toInt_toInt64] at hlf1 hmf1
      rw [show (((9999 : Int64)).toInt) = 9999 from rfl] at hmf1
      rw [show (((0 : Int64)).toInt) = 0 from rfl] at hlf1
      exact nI_bd (n := 9999) (by omega) hmf1
    refine fe_s 1 (pc' := cond (fx_cb .eq 1 0) 35 12) (lc' := [(0, .ref 0), (1, .int (nI s)), (2, .int my)]) (stk' := []) (mem' := fm g tp bt a b) (by intro _ _ _; eq_refl) ?_
    rw [show (fx_cb .eq 1 0) = false from by decide]
    dsimp only [cond]
    refine fe_s 4 (pc' := 18) (lc' := [(0, .ref 0), (1, .int (nI s)), (2, .int my)]) (stk' := [.long 20, .long (1 : Int64), .long (my.toInt64)]) (mem' := fm g tp bt a b) (by intro _ _ _; eq_refl) ?_
    obtain ⟨vf2, memf2, ⟨xf2, hxf2, hRf2⟩, hfrf2⟩ := fr_isFrom (v := my.toInt64) (l := (1 : Int64)) (m := 20) (mem := fm g tp bt a b)
    cases hRf2
    refine fe_ivS hfrf2 (by omega) (by rfl) (by rfl) (by rfl) (by rfl) (by rfl) ?_
    rcases hxf2 with ⟨rfl, hn2⟩ | ⟨rfl, hlf2, hmf2⟩
    · refine fe_s 1 (pc' := cond (fx_cb .eq 0 0) 35 24) (lc' := [(0, .ref 0), (1, .int (nI s)), (2, .int my)]) (stk' := []) (mem' := fm g tp bt a b) (by intro _ _ _; eq_refl) ?_
      rw [show (fx_cb .eq 0 0) = true from by decide]
      dsimp only [cond]
      refine fe_s 2 (pc' := 37) (lc' := [(0, .ref 0), (1, .int (nI s)), (2, .int my)]) (stk' := [.int 1, .ref 0]) (mem' := fm g tp bt a b) (by intro _ _ _; eq_refl) ?_
      refine fe_ivV fr_isx1 (by omega) (by rfl) (by rfl) (by rfl) (by rfl) (by rfl) (by rfl) ?_
      exact fe_ret ⟨_, _, _, _, _, _, Or.inl ⟨rfl, fun q => hn2 ⟨by rw [Int32.toInt_toInt64]; exact q.2.1.1, by rw [Int32.toInt_toInt64]; exact q.2.1.2⟩⟩, (fm_E_rf hBa), (fm_G_2 hG (by decide) (by decide)), (fun _ _ _ => rfl), rfl⟩ (by rfl) (by rfl) (by rfl)
    · obtain ⟨m, hm, rfl⟩ : ∃ qq, qq ≤ 20 ∧ my = nI qq := by
        rw [Int32.toInt_toInt64] at hlf2 hmf2
        rw [show (((20 : Int64)).toInt) = 20 from rfl] at hmf2
        rw [show (((1 : Int64)).toInt) = 1 from rfl] at hlf2
        exact nI_bd (n := 20) (by omega) hmf2
      have h1m : 1 ≤ m := by
        rw [Int32.toInt_toInt64, nI_i32 (by omega), show (((1 : Int64)).toInt) = 1 from rfl] at hlf2; omega
      refine fe_s 1 (pc' := cond (fx_cb .eq 1 0) 35 24) (lc' := [(0, .ref 0), (1, .int (nI s)), (2, .int (nI m))]) (stk' := []) (mem' := fm g tp bt a b) (by intro _ _ _; eq_refl) ?_
      rw [show (fx_cb .eq 1 0) = false from by decide]
      dsimp only [cond]
      refine fe_s 6 (pc' := 32) (lc' := [(0, .ref 0), (1, .int (nI s)), (2, .int (nI m))]) (stk' := [.int 9999, .int (((nI s) + (nI m)) - 1)]) (mem' := fm g tp bt a b) (by intro _ _ _; eq_refl) ?_
      rw [show (((nI s) + (nI m)) - 1 : Int32) = nI ((s + m) - 1) from by simp only [show (1 : Int32) = nI 1 from rfl, tg_sub2 (x := s + m) (y := 1) (by omega), nI_add, fm_mul]]
      refine fe_s 1 (pc' := cond (fx_cb .le (nI ((s + m) - 1)) 9999) 41 35) (lc' := [(0, .ref 0), (1, .int (nI s)), (2, .int (nI m))]) (stk' := []) (mem' := fm g tp bt a b) (by intro _ _ _; eq_refl) ?_
      by_cases h3 : ((s + m) - 1) ≤ 9999
      · rw [show (fx_cb .le (nI ((s + m) - 1)) 9999) = true from cb_leT (a := (s + m) - 1) (b := 9999) (by omega) (by omega) (by omega)]
        dsimp only [cond]
        refine fe_s 3 (pc' := 47) (lc' := [(0, .ref 0), (1, .int (nI s)), (2, .int (nI m))]) (stk' := [.int 6, .ref 1]) (mem' := fm g tp bt a b) (by intro _ _ _; eq_refl) ?_
        refine fe_ldI (by rfl) (by rfl) (fx_inN (i := 6) (by omega) (by omega)) ?_
        rw [show Int32.toNatClampNeg (6) = 6 from rfl]
        rcases fm_6 hBa with e6 | ⟨N, hN6, e6⟩
        · rw [show a 1 6 = -1 from e6]
          refine fe_s 1 (pc' := 49) (lc' := [(0, .ref 0), (1, .int (nI s)), (2, .int (nI m))]) (stk' := [.int (-1), .int (-1)]) (mem' := fm g tp bt a b) (by intro _ _ _; eq_refl) ?_
          refine fe_s 1 (pc' := cond (fx_cb .ne (-1) (-1)) 59 52) (lc' := [(0, .ref 0), (1, .int (nI s)), (2, .int (nI m))]) (stk' := []) (mem' := fm g tp bt a b) (by intro _ _ _; eq_refl) ?_
          rw [show (fx_cb .ne (-1) (-1)) = false from by decide]
          dsimp only [cond]
          refine fe_s 2 (pc' := 55) (lc' := [(0, .ref 0), (1, .int (nI s)), (2, .int (nI m))]) (stk' := [.int 6, .ref 0]) (mem' := fm g tp bt a b) (by intro _ _ _; eq_refl) ?_
          refine fe_ivV fr_isx6 (by omega) (by rfl) (by rfl) (by rfl) (by rfl) (by rfl) (by rfl) ?_
          exact fe_ret ⟨_, _, _, _, _, _, Or.inl ⟨rfl, fun q => by have q := ht.mp q.2.2.2; rw [e6] at q; exact absurd q (by decide)⟩, (fm_E_rf hBa), (fm_G_2 hG (by decide) (by decide)), (fun _ _ _ => rfl), rfl⟩ (by rfl) (by rfl) (by rfl)
        · have hq : meQ tt (nI s) (nI m) := ⟨⟨by rw [nI_i32 (by omega)]; omega, by rw [nI_i32 (by omega)]; omega⟩, ⟨by rw [nI_i32 (by omega)]; omega, by rw [nI_i32 (by omega)]; omega⟩, by rw [nI_i32 (by omega), nI_i32 (by omega)]; omega, ht.mpr (by rw [e6, nI_i32 (by omega)]; omega)⟩
          rw [show a 1 6 = nI N from e6]
          refine fe_s 1 (pc' := 49) (lc' := [(0, .ref 0), (1, .int (nI s)), (2, .int (nI m))]) (stk' := [.int (-1), .int (nI N)]) (mem' := fm g tp bt a b) (by intro _ _ _; eq_refl) ?_
          refine fe_s 1 (pc' := cond (fx_cb .ne (nI N) (-1)) 59 52) (lc' := [(0, .ref 0), (1, .int (nI s)), (2, .int (nI m))]) (stk' := []) (mem' := fm g tp bt a b) (by intro _ _ _; eq_refl) ?_
          rw [show (fx_cb .ne (nI N) (-1)) = true from cb_n_ne (by omega) (by decide)]
          dsimp only [cond]
          refine fe_s 2 (pc' := 63) (lc' := [(0, .ref 0), (1, .int (nI s)), (2, .int (nI m))]) (stk' := [.int 4210, .ref 0]) (mem' := fm g tp bt a b) (by intro _ _ _; eq_refl) ?_
          obtain ⟨vK, memK, ⟨a0, hK, hRK⟩, hfrK⟩ := fr_keeps4210 (g := g) (tp := tp) (bt := bt) (a := a) (b := b)
          cases hRK
          have hB : fm_B a0 := fm_kept hBa (by decide) hK
          obtain ⟨NC, hNC, eNC⟩ := fm_B_0 hB (i := 0) (n := 10) (by decide) rfl
          obtain ⟨NW, hNW, eNW⟩ := fm_B_0 hB (i := 1) (n := 8) (by decide) rfl
          obtain ⟨NG, hNG, eNG⟩ := fm_B_0 hB (i := 3) (n := 20) (by decide) rfl
          obtain ⟨T, hT9, eT⟩ := fm_T5 hB
          have hD : fm_D a0 a0 T := fm_D_rf hB eT (by omega)
          refine fe_ivV hfrK (by omega) (by rfl) (by rfl) (by rfl) (by rfl) (by rfl) (by rfl) ?_
          refine fe_s 4 (pc' := 71) (lc' := [(5, .int 0), (3, .long (0 : Int64)), (0, .ref 0), (1, .int (nI s)), (2, .int (nI m))]) (stk' := []) (mem' := fm g tp bt a0 b) (by intro _ _ _; eq_refl) ?_
          have loop : ∀ (r i : Nat), i + r = m → ∀ (x : Int64) (a1 : Nat → Nat → Int32) (g1 : Nat → Int32), fm_D a0 a1 T → fm_G g g1 → fe_R 13 gk_m368 71 [(5, .int (nI i)), (3, .long x), (0, .ref 0), (1, .int (nI s)), (2, .int (nI m))] [] (fm g1 tp bt a1 b) (fm_PZq (meQ tt (nI s) (nI m)) g tp bt a b) := by
            intro r
            induction r with
            | zero =>
              intro i hi x a1 g1 hD1 hG1
              obtain rfl : m = i := by omega
              refine fe_s 2 (pc' := 74) (lc' := [(5, .int (nI m)), (3, .long x), (0, .ref 0), (1, .int (nI s)), (2, .int (nI m))]) (stk' := [.int (nI m), .int (nI m)]) (mem' := fm g1 tp bt a1 b) (by intro _ _ _; eq_refl) ?_
              refine fe_s 1 (pc' := cond (fx_cb .ge (nI m) (nI m)) 110 77) (lc' := [(5, .int (nI m)), (3, .long x), (0, .ref 0), (1, .int (nI s)), (2, .int (nI m))]) (stk' := []) (mem' := fm g1 tp bt a1 b) (by intro _ _ _; eq_refl) ?_
              rw [show (fx_cb .ge (nI m) (nI m)) = true from cb_geT (a := m) (b := m) (by omega) (by omega) (by omega)]
              dsimp only [cond]
              refine fe_s 4 (pc' := 114) (lc' := [(5, .int (nI m)), (3, .long x), (0, .ref 0), (1, .int (nI s)), (2, .int (nI m))]) (stk' := [.long ((nI m).toInt64), .long x, .ref 0]) (mem' := fm g1 tp bt a1 b) (by intro _ _ _; eq_refl) ?_
              obtain ⟨vt4, memt4, ⟨tt4, ut4, hRt4⟩, hfrt4⟩ := fr_tellsByX (n := x) (d := (nI m).toInt64) (g := g1) (tp := tp) (bt := bt) (a := a1) (b := b) (fm_i64n (by omega) (by omega))
              cases hRt4
              refine fe_ivV hfrt4 (by omega) (by rfl) (by rfl) (by rfl) (by rfl) (by rfl) (by rfl) ?_
              exact fe_ret ⟨_, _, _, _, _, _, Or.inr ⟨rfl, hq⟩, fm_E_K (by decide) hK hB hD1 (by omega), (fm_G_2 hG1 (by decide) (by decide)), (fun _ _ _ => rfl), rfl⟩ (by rfl) (by rfl) (by rfl)
            | succ r ih =>
              intro i hi x a1 g1 hD1 hG1
              have him : i < m := by omega
              refine fe_s 2 (pc' := 74) (lc' := [(5, .int (nI i)), (3, .long x), (0, .ref 0), (1, .int (nI s)), (2, .int (nI m))]) (stk' := [.int (nI m), .int (nI i)]) (mem' := fm g1 tp bt a1 b) (by intro _ _ _; eq_refl) ?_
              refine fe_s 1 (pc' := cond (fx_cb .ge (nI i) (nI m)) 110 77) (lc' := [(5, .int (nI i)), (3, .long x), (0, .ref 0), (1, .int (nI s)), (2, .int (nI m))]) (stk' := []) (mem' := fm g1 tp bt a1 b) (by intro _ _ _; eq_refl) ?_
              rw [show (fx_cb .ge (nI i) (nI m)) = false from cb_geF (a := i) (b := m) (by omega) (by omega) (by omega)]
              dsimp only [cond]
              refine fe_s 4 (pc' := 82) (lc' := [(5, .int (nI i)), (3, .long x), (0, .ref 0), (1, .int (nI s)), (2, .int (nI m))]) (stk' := [.int ((nI s) + (nI i)), .ref 0]) (mem' := fm g1 tp bt a1 b) (by intro _ _ _; eq_refl) ?_
              rw [show ((nI s) + (nI i) : Int32) = nI (s + i) from by simp only [nI_add, fm_mul]]
              obtain ⟨ve5, meme5, ⟨ge5, ae5, Te5, re5, hTe5, hre5, hge5, h37e5, hDe5, hRe5⟩, hfre5⟩ := fr_lives (s := s + i) (N := N) (g := g1) (tp := tp) (bt := bt) (a := a1) (b := b) hB hD1 (by omega) (by omega) ((hK.2.1 6 (by omega)).trans e6) hN6
              cases hRe5
              have hGe5 := fm_G_lv hG1 hge5 h37e5 hre5
              refine fe_ivV hfre5 (by omega) (by rfl) (by rfl) (by rfl) (by rfl) (by rfl) (by rfl) ?_
              refine fe_s 3 (pc' := 88) (lc' := [(5, .int (nI i)), (3, .long x), (0, .ref 0), (1, .int (nI s)), (2, .int (nI m))]) (stk' := [.int 2, .ref 0, .long x]) (mem' := fm ge5 tp bt ae5 b) (by intro _ _ _; eq_refl) ?_
              obtain ⟨vd6, memd6, ⟨xd6, ad6, hDd6, hRd6⟩, hfrd6⟩ := fr_setOf2 (g := ge5) (tp := tp) (bt := bt) (a := ae5) (b := b) hB hDe5
              cases hRd6
              refine fe_ivV hfrd6 (by omega) (by rfl) (by rfl) (by rfl) (by rfl) (by rfl) (by rfl) ?_
              obtain ⟨vb7, hfrb7⟩ := fr_bits (x := xd6) (mem := fm ge5 tp bt ad6 b)
              refine fe_ivS hfrb7 (by omega) (by rfl) (by rfl) (by rfl) (by rfl) (by rfl) ?_
              refine fe_s 5 (pc' := 101) (lc' := [(3, .long (x + (vb7.toInt64))), (5, .int (nI i)), (0, .ref 0), (1, .int (nI s)), (2, .int (nI m))]) (stk' := [.int 4210, .ref 0]) (mem' := fm ge5 tp bt ad6 b) (by intro _ _ _; eq_refl) ?_
              obtain ⟨vz8, memz8, ⟨az8, hSz8, hRz8⟩, hfrz8⟩ := fr_restores4210 (g := ge5) (tp := tp) (bt := bt) (a := ad6) (b := b)
              cases hRz8
              have hDz8 := fm_restD (by decide) hK hB hD hDd6 hSz8
              refine fe_ivV hfrz8 (by omega) (by rfl) (by rfl) (by rfl) (by rfl) (by rfl) (by rfl) ?_
              refine fe_s 2 (pc' := 71) (lc' := [(5, .int ((nI i) + 1)), (3, .long (x + (vb7.toInt64))), (0, .ref 0), (1, .int (nI s)), (2, .int (nI m))]) (stk' := []) (mem' := fm ge5 tp bt az8 b) (by intro _ _ _; eq_refl) ?_
              rw [show ((nI i) + 1 : Int32) = nI (i + 1) from by simp only [show (1 : Int32) = nI 1 from rfl, nI_add, fm_mul]]
              refine fe_w (lc' := [(5, .int (nI (i + 1))), (3, .long (x + (vb7.toInt64))), (0, .ref 0), (1, .int (nI s)), (2, .int (nI m))]) ⟨rfl, rfl, rfl, rfl, rfl, trivial⟩ (by show List.Nodup [5, 3, 0, 1, 2]; decide) (by show List.Nodup [5, 3, 0, 1, 2]; decide) ?_
              exact ih (i + 1) (by omega) _ _ _ hDz8 hGe5
          refine fe_w (lc' := [(5, .int (nI 0)), (3, .long (0 : Int64)), (0, .ref 0), (1, .int (nI s)), (2, .int (nI m))]) ⟨rfl, rfl, rfl, rfl, rfl, trivial⟩ (by show List.Nodup [5, 3, 0, 1, 2]; decide) (by show List.Nodup [5, 3, 0, 1, 2]; decide) ?_
          exact loop m 0 (by omega) _ _ _ hD hG
      · rw [show (fx_cb .le (nI ((s + m) - 1)) 9999) = false from cb_leF (a := (s + m) - 1) (b := 9999) (by omega) (by omega) (by omega)]
        dsimp only [cond]
        refine fe_s 2 (pc' := 37) (lc' := [(0, .ref 0), (1, .int (nI s)), (2, .int (nI m))]) (stk' := [.int 1, .ref 0]) (mem' := fm g tp bt a b) (by intro _ _ _; eq_refl) ?_
        refine fe_ivV fr_isx1 (by omega) (by rfl) (by rfl) (by rfl) (by rfl) (by rfl) (by rfl) ?_
        exact fe_ret ⟨_, _, _, _, _, _, Or.inl ⟨rfl, fun q => by have q := q.2.2.1; rw [nI_i32 (by omega), nI_i32 (by omega)] at q; omega⟩, (fm_E_rf hBa), (fm_G_2 hG (by decide) (by decide)), (fun _ _ _ => rfl), rfl⟩ (by rfl) (by rfl) (by rfl)
end MEX2
section MEC
variable {l : Launch} {D : va_G} {xt : tk_XT} {ads tw : List Nat}
def me_F : tk_FA := [(0, (0, 0, 0, 10), (2, 1, 0, 0)), (1, (0, 0, 0, 7), (2, 2, 0, 0)), (2, (0, 0, 0, 7), (0, 0, 0, 1))]
def me_K (m : Int) : tk_K := (183, [(2, 0, 0, 0), (0, 1, 1, 0), (0, 0, 0, m)], ([(0, 10000 - m)], []), [0, 12, 31], me_F, ([(some (0, 0, 0, 1), ([(0, 10000 - m)], []), [0, 12, 31], [])], gc_K312.2.2.2.2.2.2))
def me_H (m : Int) : List tk_Hd := [(64, [(0, (2, 0, 0, 0)), (1, (0, 1, 1, 0)), (2, (0, 0, 0, m)), (3, (1, 2, 1, 0)), (5, (0, 3, 1, 0))], ([(0, 10000 - m), ((-9223372036854775808), 9223372036854775807), (0, m)], []), [0, 12, 31], me_F, [(0, 0, (0, 0, 0, 0)), (1, 20, (0, 3, 1, 0)), (0, 0, (0, 0, 0, 0))])]
theorem me_C1 (hU : gc_U tw) (hxt : tk_xtok xt) : tk_KS l D gk_cl gk_tbl gk_xw xt gk_MN gk_P gc_TY lc_ro (gc_X tw) ads tw 10 (me_K 1) := tk_contract (hk := tk_hk0) tk_hk0_ok (gc_xs hU) hxt gk_rok [188, 189] 9000 1 3 (Ks := [gc_K266, gc_K230, gc_K311, gc_K80]) (d := 8) (List.forall_mem_cons.mpr ⟨tk_KS_up (by decide) (gc_266 hU hxt), (List.forall_mem_cons.mpr ⟨tk_KS_up (by decide) (gc_230 hU hxt), (List.forall_mem_cons.mpr ⟨tk_KS_up (by decide) (gc_311 hU hxt), (List.forall_mem_cons.mpr ⟨tk_KS_up (by decide) (gc_80 hU hxt), (fun _ h => absurd h List.not_mem_nil)⟩)⟩)⟩)⟩) (Hs := me_H 1) (by decide +kernel) rfl
theorem me_C2 (hU : gc_U tw) (hxt : tk_xtok xt) : tk_KS l D gk_cl gk_tbl gk_xw xt gk_MN gk_P gc_TY lc_ro (gc_X tw) ads tw 10 (me_K 2) := tk_contract (hk := tk_hk0) tk_hk0_ok (gc_xs hU) hxt gk_rok [188, 189] 9000 1 3 (Ks := [gc_K266, gc_K230, gc_K311, gc_K80]) (d := 8) (List.forall_mem_cons.mpr ⟨tk_KS_up (by decide) (gc_266 hU hxt), (List.forall_mem_cons.mpr ⟨tk_KS_up (by decide) (gc_230 hU hxt), (List.forall_mem_cons.mpr ⟨tk_KS_up (by decide) (gc_311 hU hxt), (List.forall_mem_cons.mpr ⟨tk_KS_up (by decide) (gc_80 hU hxt), (fun _ h => absurd h List.not_mem_nil)⟩)⟩)⟩)⟩) (Hs := me_H 2) (by decide +kernel) rfl
theorem me_C3 (hU : gc_U tw) (hxt : tk_xtok xt) : tk_KS l D gk_cl gk_tbl gk_xw xt gk_MN gk_P gc_TY lc_ro (gc_X tw) ads tw 10 (me_K 3) := tk_contract (hk := tk_hk0) tk_hk0_ok (gc_xs hU) hxt gk_rok [188, 189] 9000 1 3 (Ks := [gc_K266, gc_K230, gc_K311, gc_K80]) (d := 8) (List.forall_mem_cons.mpr ⟨tk_KS_up (by decide) (gc_266 hU hxt), (List.forall_mem_cons.mpr ⟨tk_KS_up (by decide) (gc_230 hU hxt), (List.forall_mem_cons.mpr ⟨tk_KS_up (by decide) (gc_311 hU hxt), (List.forall_mem_cons.mpr ⟨tk_KS_up (by decide) (gc_80 hU hxt), (fun _ h => absurd h List.not_mem_nil)⟩)⟩)⟩)⟩) (Hs := me_H 3) (by decide +kernel) rfl
theorem me_C4 (hU : gc_U tw) (hxt : tk_xtok xt) : tk_KS l D gk_cl gk_tbl gk_xw xt gk_MN gk_P gc_TY lc_ro (gc_X tw) ads tw 10 (me_K 4) := tk_contract (hk := tk_hk0) tk_hk0_ok (gc_xs hU) hxt gk_rok [188, 189] 9000 1 3 (Ks := [gc_K266, gc_K230, gc_K311, gc_K80]) (d := 8) (List.forall_mem_cons.mpr ⟨tk_KS_up (by decide) (gc_266 hU hxt), (List.forall_mem_cons.mpr ⟨tk_KS_up (by decide) (gc_230 hU hxt), (List.forall_mem_cons.mpr ⟨tk_KS_up (by decide) (gc_311 hU hxt), (List.forall_mem_cons.mpr ⟨tk_KS_up (by decide) (gc_80 hU hxt), (fun _ h => absurd h List.not_mem_nil)⟩)⟩)⟩)⟩) (Hs := me_H 4) (by decide +kernel) rfl
theorem me_C5 (hU : gc_U tw) (hxt : tk_xtok xt) : tk_KS l D gk_cl gk_tbl gk_xw xt gk_MN gk_P gc_TY lc_ro (gc_X tw) ads tw 10 (me_K 5) := tk_contract (hk := tk_hk0) tk_hk0_ok (gc_xs hU) hxt gk_rok [188, 189] 9000 1 3 (Ks := [gc_K266, gc_K230, gc_K311, gc_K80]) (d := 8) (List.forall_mem_cons.mpr ⟨tk_KS_up (by decide) (gc_266 hU hxt), (List.forall_mem_cons.mpr ⟨tk_KS_up (by decide) (gc_230 hU hxt), (List.forall_mem_cons.mpr ⟨tk_KS_up (by decide) (gc_311 hU hxt), (List.forall_mem_cons.mpr ⟨tk_KS_up (by decide) (gc_80 hU hxt), (fun _ h => absurd h List.not_mem_nil)⟩)⟩)⟩)⟩) (Hs := me_H 5) (by decide +kernel) rfl
theorem me_C6 (hU : gc_U tw) (hxt : tk_xtok xt) : tk_KS l D gk_cl gk_tbl gk_xw xt gk_MN gk_P gc_TY lc_ro (gc_X tw) ads tw 10 (me_K 6) := tk_contract (hk := tk_hk0) tk_hk0_ok (gc_xs hU) hxt gk_rok [188, 189] 9000 1 3 (Ks := [gc_K266, gc_K230, gc_K311, gc_K80]) (d := 8) (List.forall_mem_cons.mpr ⟨tk_KS_up (by decide) (gc_266 hU hxt), (List.forall_mem_cons.mpr ⟨tk_KS_up (by decide) (gc_230 hU hxt), (List.forall_mem_cons.mpr ⟨tk_KS_up (by decide) (gc_311 hU hxt), (List.forall_mem_cons.mpr ⟨tk_KS_up (by decide) (gc_80 hU hxt), (fun _ h => absurd h List.not_mem_nil)⟩)⟩)⟩)⟩) (Hs := me_H 6) (by decide +kernel) rfl
theorem me_C7 (hU : gc_U tw) (hxt : tk_xtok xt) : tk_KS l D gk_cl gk_tbl gk_xw xt gk_MN gk_P gc_TY lc_ro (gc_X tw) ads tw 10 (me_K 7) := tk_contract (hk := tk_hk0) tk_hk0_ok (gc_xs hU) hxt gk_rok [188, 189] 9000 1 3 (Ks := [gc_K266, gc_K230, gc_K311, gc_K80]) (d := 8) (List.forall_mem_cons.mpr ⟨tk_KS_up (by decide) (gc_266 hU hxt), (List.forall_mem_cons.mpr ⟨tk_KS_up (by decide) (gc_230 hU hxt), (List.forall_mem_cons.mpr ⟨tk_KS_up (by decide) (gc_311 hU hxt), (List.forall_mem_cons.mpr ⟨tk_KS_up (by decide) (gc_80 hU hxt), (fun _ h => absurd h List.not_mem_nil)⟩)⟩)⟩)⟩) (Hs := me_H 7) (by decide +kernel) rfl
theorem me_C8 (hU : gc_U tw) (hxt : tk_xtok xt) : tk_KS l D gk_cl gk_tbl gk_xw xt gk_MN gk_P gc_TY lc_ro (gc_X tw) ads tw 10 (me_K 8) := tk_contract (hk := tk_hk0) tk_hk0_ok (gc_xs hU) hxt gk_rok [188, 189] 9000 1 3 (Ks := [gc_K266, gc_K230, gc_K311, gc_K80]) (d := 8) (List.forall_mem_cons.mpr ⟨tk_KS_up (by decide) (gc_266 hU hxt), (List.forall_mem_cons.mpr ⟨tk_KS_up (by decide) (gc_230 hU hxt), (List.forall_mem_cons.mpr ⟨tk_KS_up (by decide) (gc_311 hU hxt), (List.forall_mem_cons.mpr ⟨tk_KS_up (by decide) (gc_80 hU hxt), (fun _ h => absurd h List.not_mem_nil)⟩)⟩)⟩)⟩) (Hs := me_H 8) (by decide +kernel) rfl
theorem me_C9 (hU : gc_U tw) (hxt : tk_xtok xt) : tk_KS l D gk_cl gk_tbl gk_xw xt gk_MN gk_P gc_TY lc_ro (gc_X tw) ads tw 10 (me_K 9) := tk_contract (hk := tk_hk0) tk_hk0_ok (gc_xs hU) hxt gk_rok [188, 189] 9000 1 3 (Ks := [gc_K266, gc_K230, gc_K311, gc_K80]) (d := 8) (List.forall_mem_cons.mpr ⟨tk_KS_up (by decide) (gc_266 hU hxt), (List.forall_mem_cons.mpr ⟨tk_KS_up (by decide) (gc_230 hU hxt), (List.forall_mem_cons.mpr ⟨tk_KS_up (by decide) (gc_311 hU hxt), (List.forall_mem_cons.mpr ⟨tk_KS_up (by decide) (gc_80 hU hxt), (fun _ h => absurd h List.not_mem_nil)⟩)⟩)⟩)⟩) (Hs := me_H 9) (by decide +kernel) rfl
theorem me_C10 (hU : gc_U tw) (hxt : tk_xtok xt) : tk_KS l D gk_cl gk_tbl gk_xw xt gk_MN gk_P gc_TY lc_ro (gc_X tw) ads tw 10 (me_K 10) := tk_contract (hk := tk_hk0) tk_hk0_ok (gc_xs hU) hxt gk_rok [188, 189] 9000 1 3 (Ks := [gc_K266, gc_K230, gc_K311, gc_K80]) (d := 8) (List.forall_mem_cons.mpr ⟨tk_KS_up (by decide) (gc_266 hU hxt), (List.forall_mem_cons.mpr ⟨tk_KS_up (by decide) (gc_230 hU hxt), (List.forall_mem_cons.mpr ⟨tk_KS_up (by decide) (gc_311 hU hxt), (List.forall_mem_cons.mpr ⟨tk_KS_up (by decide) (gc_80 hU hxt), (fun _ h => absurd h List.not_mem_nil)⟩)⟩)⟩)⟩) (Hs := me_H 10) (by decide +kernel) rfl
theorem me_C11 (hU : gc_U tw) (hxt : tk_xtok xt) : tk_KS l D gk_cl gk_tbl gk_xw xt gk_MN gk_P gc_TY lc_ro (gc_X tw) ads tw 10 (me_K 11) := tk_contract (hk := tk_hk0) tk_hk0_ok (gc_xs hU) hxt gk_rok [188, 189] 9000 1 3 (Ks := [gc_K266, gc_K230, gc_K311, gc_K80]) (d := 8) (List.forall_mem_cons.mpr ⟨tk_KS_up (by decide) (gc_266 hU hxt), (List.forall_mem_cons.mpr ⟨tk_KS_up (by decide) (gc_230 hU hxt), (List.forall_mem_cons.mpr ⟨tk_KS_up (by decide) (gc_311 hU hxt), (List.forall_mem_cons.mpr ⟨tk_KS_up (by decide) (gc_80 hU hxt), (fun _ h => absurd h List.not_mem_nil)⟩)⟩)⟩)⟩) (Hs := me_H 11) (by decide +kernel) rfl
theorem me_C12 (hU : gc_U tw) (hxt : tk_xtok xt) : tk_KS l D gk_cl gk_tbl gk_xw xt gk_MN gk_P gc_TY lc_ro (gc_X tw) ads tw 10 (me_K 12) := tk_contract (hk := tk_hk0) tk_hk0_ok (gc_xs hU) hxt gk_rok [188, 189] 9000 1 3 (Ks := [gc_K266, gc_K230, gc_K311, gc_K80]) (d := 8) (List.forall_mem_cons.mpr ⟨tk_KS_up (by decide) (gc_266 hU hxt), (List.forall_mem_cons.mpr ⟨tk_KS_up (by decide) (gc_230 hU hxt), (List.forall_mem_cons.mpr ⟨tk_KS_up (by decide) (gc_311 hU hxt), (List.forall_mem_cons.mpr ⟨tk_KS_up (by decide) (gc_80 hU hxt), (fun _ h => absurd h List.not_mem_nil)⟩)⟩)⟩)⟩) (Hs := me_H 12) (by decide +kernel) rfl
theorem me_C13 (hU : gc_U tw) (hxt : tk_xtok xt) : tk_KS l D gk_cl gk_tbl gk_xw xt gk_MN gk_P gc_TY lc_ro (gc_X tw) ads tw 10 (me_K 13) := tk_contract (hk := tk_hk0) tk_hk0_ok (gc_xs hU) hxt gk_rok [188, 189] 9000 1 3 (Ks := [gc_K266, gc_K230, gc_K311, gc_K80]) (d := 8) (List.forall_mem_cons.mpr ⟨tk_KS_up (by decide) (gc_266 hU hxt), (List.forall_mem_cons.mpr ⟨tk_KS_up (by decide) (gc_230 hU hxt), (List.forall_mem_cons.mpr ⟨tk_KS_up (by decide) (gc_311 hU hxt), (List.forall_mem_cons.mpr ⟨tk_KS_up (by decide) (gc_80 hU hxt), (fun _ h => absurd h List.not_mem_nil)⟩)⟩)⟩)⟩) (Hs := me_H 13) (by decide +kernel) rfl
theorem me_C14 (hU : gc_U tw) (hxt : tk_xtok xt) : tk_KS l D gk_cl gk_tbl gk_xw xt gk_MN gk_P gc_TY lc_ro (gc_X tw) ads tw 10 (me_K 14) := tk_contract (hk := tk_hk0) tk_hk0_ok (gc_xs hU) hxt gk_rok [188, 189] 9000 1 3 (Ks := [gc_K266, gc_K230, gc_K311, gc_K80]) (d := 8) (List.forall_mem_cons.mpr ⟨tk_KS_up (by decide) (gc_266 hU hxt), (List.forall_mem_cons.mpr ⟨tk_KS_up (by decide) (gc_230 hU hxt), (List.forall_mem_cons.mpr ⟨tk_KS_up (by decide) (gc_311 hU hxt), (List.forall_mem_cons.mpr ⟨tk_KS_up (by decide) (gc_80 hU hxt), (fun _ h => absurd h List.not_mem_nil)⟩)⟩)⟩)⟩) (Hs := me_H 14) (by decide +kernel) rfl
theorem me_C15 (hU : gc_U tw) (hxt : tk_xtok xt) : tk_KS l D gk_cl gk_tbl gk_xw xt gk_MN gk_P gc_TY lc_ro (gc_X tw) ads tw 10 (me_K 15) := tk_contract (hk := tk_hk0) tk_hk0_ok (gc_xs hU) hxt gk_rok [188, 189] 9000 1 3 (Ks := [gc_K266, gc_K230, gc_K311, gc_K80]) (d := 8) (List.forall_mem_cons.mpr ⟨tk_KS_up (by decide) (gc_266 hU hxt), (List.forall_mem_cons.mpr ⟨tk_KS_up (by decide) (gc_230 hU hxt), (List.forall_mem_cons.mpr ⟨tk_KS_up (by decide) (gc_311 hU hxt), (List.forall_mem_cons.mpr ⟨tk_KS_up (by decide) (gc_80 hU hxt), (fun _ h => absurd h List.not_mem_nil)⟩)⟩)⟩)⟩) (Hs := me_H 15) (by decide +kernel) rfl
theorem me_C16 (hU : gc_U tw) (hxt : tk_xtok xt) : tk_KS l D gk_cl gk_tbl gk_xw xt gk_MN gk_P gc_TY lc_ro (gc_X tw) ads tw 10 (me_K 16) := tk_contract (hk := tk_hk0) tk_hk0_ok (gc_xs hU) hxt gk_rok [188, 189] 9000 1 3 (Ks := [gc_K266, gc_K230, gc_K311, gc_K80]) (d := 8) (List.forall_mem_cons.mpr ⟨tk_KS_up (by decide) (gc_266 hU hxt), (List.forall_mem_cons.mpr ⟨tk_KS_up (by decide) (gc_230 hU hxt), (List.forall_mem_cons.mpr ⟨tk_KS_up (by decide) (gc_311 hU hxt), (List.forall_mem_cons.mpr ⟨tk_KS_up (by decide) (gc_80 hU hxt), (fun _ h => absurd h List.not_mem_nil)⟩)⟩)⟩)⟩) (Hs := me_H 16) (by decide +kernel) rfl
theorem me_C17 (hU : gc_U tw) (hxt : tk_xtok xt) : tk_KS l D gk_cl gk_tbl gk_xw xt gk_MN gk_P gc_TY lc_ro (gc_X tw) ads tw 10 (me_K 17) := tk_contract (hk := tk_hk0) tk_hk0_ok (gc_xs hU) hxt gk_rok [188, 189] 9000 1 3 (Ks := [gc_K266, gc_K230, gc_K311, gc_K80]) (d := 8) (List.forall_mem_cons.mpr ⟨tk_KS_up (by decide) (gc_266 hU hxt), (List.forall_mem_cons.mpr ⟨tk_KS_up (by decide) (gc_230 hU hxt), (List.forall_mem_cons.mpr ⟨tk_KS_up (by decide) (gc_311 hU hxt), (List.forall_mem_cons.mpr ⟨tk_KS_up (by decide) (gc_80 hU hxt), (fun _ h => absurd h List.not_mem_nil)⟩)⟩)⟩)⟩) (Hs := me_H 17) (by decide +kernel) rfl
theorem me_C18 (hU : gc_U tw) (hxt : tk_xtok xt) : tk_KS l D gk_cl gk_tbl gk_xw xt gk_MN gk_P gc_TY lc_ro (gc_X tw) ads tw 10 (me_K 18) := tk_contract (hk := tk_hk0) tk_hk0_ok (gc_xs hU) hxt gk_rok [188, 189] 9000 1 3 (Ks := [gc_K266, gc_K230, gc_K311, gc_K80]) (d := 8) (List.forall_mem_cons.mpr ⟨tk_KS_up (by decide) (gc_266 hU hxt), (List.forall_mem_cons.mpr ⟨tk_KS_up (by decide) (gc_230 hU hxt), (List.forall_mem_cons.mpr ⟨tk_KS_up (by decide) (gc_311 hU hxt), (List.forall_mem_cons.mpr ⟨tk_KS_up (by decide) (gc_80 hU hxt), (fun _ h => absurd h List.not_mem_nil)⟩)⟩)⟩)⟩) (Hs := me_H 18) (by decide +kernel) rfl
theorem me_C19 (hU : gc_U tw) (hxt : tk_xtok xt) : tk_KS l D gk_cl gk_tbl gk_xw xt gk_MN gk_P gc_TY lc_ro (gc_X tw) ads tw 10 (me_K 19) := tk_contract (hk := tk_hk0) tk_hk0_ok (gc_xs hU) hxt gk_rok [188, 189] 9000 1 3 (Ks := [gc_K266, gc_K230, gc_K311, gc_K80]) (d := 8) (List.forall_mem_cons.mpr ⟨tk_KS_up (by decide) (gc_266 hU hxt), (List.forall_mem_cons.mpr ⟨tk_KS_up (by decide) (gc_230 hU hxt), (List.forall_mem_cons.mpr ⟨tk_KS_up (by decide) (gc_311 hU hxt), (List.forall_mem_cons.mpr ⟨tk_KS_up (by decide) (gc_80 hU hxt), (fun _ h => absurd h List.not_mem_nil)⟩)⟩)⟩)⟩) (Hs := me_H 19) (by decide +kernel) rfl
theorem me_C20 (hU : gc_U tw) (hxt : tk_xtok xt) : tk_KS l D gk_cl gk_tbl gk_xw xt gk_MN gk_P gc_TY lc_ro (gc_X tw) ads tw 10 (me_K 20) := tk_contract (hk := tk_hk0) tk_hk0_ok (gc_xs hU) hxt gk_rok [188, 189] 9000 1 3 (Ks := [gc_K266, gc_K230, gc_K311, gc_K80]) (d := 8) (List.forall_mem_cons.mpr ⟨tk_KS_up (by decide) (gc_266 hU hxt), (List.forall_mem_cons.mpr ⟨tk_KS_up (by decide) (gc_230 hU hxt), (List.forall_mem_cons.mpr ⟨tk_KS_up (by decide) (gc_311 hU hxt), (List.forall_mem_cons.mpr ⟨tk_KS_up (by decide) (gc_80 hU hxt), (fun _ h => absurd h List.not_mem_nil)⟩)⟩)⟩)⟩) (Hs := me_H 20) (by decide +kernel) rfl
theorem me_C (hU : gc_U tw) (hxt : tk_xtok xt) : ∀ m : Nat, 1 ≤ m → m ≤ 20 → tk_KS l D gk_cl gk_tbl gk_xw xt gk_MN gk_P gc_TY lc_ro (gc_X tw) ads tw 10 (me_K (m : Int)) := fun m h1 h2 => by
  match m, h1, h2 with
  | 1, _, _ => exact me_C1 hU hxt
  | 2, _, _ => exact me_C2 hU hxt
  | 3, _, _ => exact me_C3 hU hxt
  | 4, _, _ => exact me_C4 hU hxt
  | 5, _, _ => exact me_C5 hU hxt
  | 6, _, _ => exact me_C6 hU hxt
  | 7, _, _ => exact me_C7 hU hxt
  | 8, _, _ => exact me_C8 hU hxt
  | 9, _, _ => exact me_C9 hU hxt
  | 10, _, _ => exact me_C10 hU hxt
  | 11, _, _ => exact me_C11 hU hxt
  | 12, _, _ => exact me_C12 hU hxt
  | 13, _, _ => exact me_C13 hU hxt
  | 14, _, _ => exact me_C14 hU hxt
  | 15, _, _ => exact me_C15 hU hxt
  | 16, _, _ => exact me_C16 hU hxt
  | 17, _, _ => exact me_C17 hU hxt
  | 18, _, _ => exact me_C18 hU hxt
  | 19, _, _ => exact me_C19 hU hxt
  | 20, _, _ => exact me_C20 hU hxt
  | n + 21, _, h => exact absurd h (by omega)
end MEC
theorem lw_twC12 : ∀ j, lw_twC[j]? = some 12 → j = 15 := by
  intro j h
  have hb : j < 270 := lw_ltC h
  have : ∀ j, j < 270 → lw_twC[j]? = some 12 → j = 15 := by decide +kernel
  exact this j hb h
theorem lw_twC31 : ∀ j, lw_twC[j]? = some 31 → j = 34 := by
  intro j h
  have hb : j < 270 := lw_ltC h
  have : ∀ j, j < 270 → lw_twC[j]? = some 31 → j = 34 := by decide +kernel
  exact this j hb h
section MES
variable {l : Launch} {D : va_G} {xt : tk_XT} {ads : List Nat}
/-- there are TALES -/
def me_T (ws : va_W) : Prop := lw_at ws (34, 7) = some (.int 1)
theorem me_semK (hxt : tk_xtok xt) (hl : ads.length = lw_twC.length) {W : List (Nat × Nat)} (hW : lr_un lw_twC gc_TY gc_K312.2.2.2.2.2.2 W = true) : lw_sem l D xt gc_TY (gc_X lw_twC) ads lw_twC 10 183 [0, 0] [gn_i, gn_i] (fun av ws ws' v => lw_unQ 0 W av ws ws' v ∧ ∀ x y : Int32, av = [.int x, .int y] → meQ (me_T ws) x y → v = .int 1) := by
  refine lw_sem_K (fun U ax ws av a1 a2 a3 a4 a5 a6 => ?_)
  obtain ⟨v1, r1, rfl, h1, a2'⟩ := rk_A2.cons (show rk_A2 lq_av [(0, gn_i), (0, gn_i)] av from a2)
  obtain ⟨v2, r2, rfl, h2, a2''⟩ := rk_A2.cons a2'
  obtain rfl := a2''.nil
  obtain ⟨x, rfl, hx1, hx2⟩ : ∃ n : Int32, v1 = .int n ∧ (-2147483648 : Int) ≤ n.toInt ∧ n.toInt ≤ 2147483647 := by
    rcases h1 with ⟨-, x, e, b1, b2⟩ | ⟨h1, -⟩
    · exact ⟨x, e, b1, b2⟩
    · cases h1
  obtain ⟨y, rfl, hy1, hy2⟩ : ∃ n : Int32, v2 = .int n ∧ (-2147483648 : Int) ≤ n.toInt ∧ n.toInt ≤ 2147483647 := by
    rcases h2 with ⟨-, x, e, b1, b2⟩ | ⟨h2, -⟩
    · exact ⟨x, e, b1, b2⟩
    · cases h2
  by_cases hq : meQ (me_T ws) x y
  · obtain ⟨⟨q1, q2⟩, ⟨q3, q4⟩, q5, q6⟩ := hq
    obtain ⟨m, hm, rfl⟩ := nI_bd (x := y) (n := 20) (by omega) q4
    have em : (nI m).toInt = (m : Int) := nI_i32 (by omega)
    obtain ⟨e, y1, hw, hat, hty⟩ := lw_fldr (i := 10) (lo := 12) a3 a4 a1 rfl rfl lw_twC0
    obtain ⟨e2, y2, hw2, hat2, hty2⟩ := lw_fldr (i := 7) (lo := 31) a3 a4 (show tk_ty ads lw_twC 12 y1 from hty) rfl rfl lw_twC12
    obtain ⟨e3, z, hw3, hat3, -, -⟩ := lw_fld (i := 7) (lo := 0) (hi := 1) a3 a4 (show tk_ty ads lw_twC 31 y2 from hty2) rfl rfl lw_twC31
    refine ⟨_, _, [12, 31], [y1, y2], _, _, _, [x.toInt], me_C lw_gcU hxt m (by omega) hm, ⟨⟨⟨by show (0 : Int) ≤ _; omega, by show _ ≤ (10000 - (m : Int)); omega⟩, trivial⟩, fun q hq => absurd hq List.not_mem_nil⟩, ⟨hty, hty2, trivial⟩, ⟨⟨x, rfl, by show some (1 * x.toInt + 0) = _; congr 1; omega⟩, ⟨nI m, rfl, by show some (m : Int) = _; rw [em]⟩, trivial⟩, ?_, ?_⟩
    · intro q hq
      rcases List.mem_cons.mp hq with hq | hq
      · rw [hq]
        exact lw_fk (r := 0) (j := 0) (i := 10) rfl hw hat ⟨y1, rfl, rfl⟩
      rcases List.mem_cons.mp hq with hq | hq
      · rw [hq]
        exact lw_fk (r := 1) (j := 15) (i := 7) rfl hw2 hat2 ⟨y2, rfl, rfl⟩
      · rw [List.mem_singleton.mp hq]
        exact lw_fk (r := 2) (j := 34) (i := 7) rfl hw3 q6 ⟨1, rfl, rfl⟩
    · intro q hq t vals' rads' ws' oc k1 k2 k3 k4 k5 k6 k7 k8
      rw [List.mem_singleton.mp hq] at k8
      obtain ⟨u, hg, eu⟩ := k8
      obtain ⟨x2, rfl, hx2⟩ := tk_g_int hg
      have e1 : x2 = 1 := Int32.toInt_inj.mp (hx2.trans (by decide))
      subst e1
      exact ⟨_, eu, ⟨⟨_, rfl⟩, lw_un_at a4.len.symm hW k7⟩, fun _ _ _ _ => rfl⟩
  · refine ⟨_, _, [], [], _, _, _, [x.toInt, y.toInt], gc_312 lw_gcU hxt, ⟨⟨⟨hx1, hx2⟩, ⟨hy1, hy2⟩, trivial⟩, fun q hq => absurd hq List.not_mem_nil⟩, trivial, ⟨⟨x, rfl, by show some (1 * x.toInt + 0) = _; congr 1; omega⟩, ⟨y, rfl, by show some (1 * y.toInt + 0) = _; congr 1; omega⟩, trivial⟩, fun q hq => absurd hq List.not_mem_nil, ?_⟩
    intro q hq2 t vals' rads' ws' oc k1 k2 k3 k4 k5 k6 k7 k8
    have hno : ∀ (x1 y1 : Int32), ([.int x, .int y] : List Value) = [.int x1, .int y1] → ¬ meQ (me_T ws) x1 y1 := fun x1 y1 e => by
      cases e
      exact hq
    rcases List.mem_cons.mp hq2 with hq2 | hq2
    · subst hq2
      obtain ⟨u, hg, eu⟩ := k8
      obtain ⟨x2, rfl, -⟩ := tk_g_int hg
      exact ⟨_, eu, ⟨⟨_, rfl⟩, lw_un_at a4.len.symm hW k7⟩, fun x1 y1 e z => absurd z (hno x1 y1 e)⟩
    · rw [List.mem_singleton.mp hq2] at k8
      obtain ⟨u, hg, eu⟩ := k8
      obtain ⟨x2, rfl, -⟩ := tk_g_int hg
      exact ⟨_, eu, ⟨⟨_, rfl⟩, lw_un_at a4.len.symm hW k7⟩, fun x1 y1 e z => absurd z (hno x1 y1 e)⟩
/-- what mean answers: class -/
def meVC : List Value → va_W → Value → Prop := fun av ws v => ∃ x y : Int32, av = [.int x, .int y] ∧ (meQ (me_T ws) x y ∧ v = .int 1 ∨ ¬ meQ (me_T ws) x y ∧ v = .int 0)
theorem meC_sem (hxt : tk_xtok xt) (hl : ads.length = lw_twC.length) {W : List (Nat × Nat)} (hW : lr_un lw_twC gc_TY gc_K312.2.2.2.2.2.2 (h3_W ++ W) = true) : lw_sem l D xt gc_TY h3_X ads lw_twC 20 183 [0, 0] [gn_i, gn_i] (fun av ws ws' v => (lr_ty 0 v ∧ ∀ z ∈ W, lw_at ws' z = lw_at ws z) ∧ meVC av ws v) := by
  refine lw_sem_imp (hc_sem2P (P := fun av ws => ∃ x y : Int32, av = [.int x, .int y] ∧ ¬ meQ (me_T ws) x y) (Q1 := fun _ _ _ v => v = .int 0) (k := 2) hxt (by decide) (lw_sem_up (by decide) (lw_sem_h3 (me_semK hxt hl hW) (fun av ws ws' v h z hz => h.1.2 z (List.mem_append_left _ hz)))) (fun U ax rest ws hty hrest h5 h4 hD hX hP => ?_)) ?_
  · obtain ⟨x, y, rfl, hn⟩ := hP
    have hcx := hc_cx h4 h5 hD hX.1.1.2 hX.2
    generalize (hc_q ads ws, (hc_mem ads lw_twC ws).drop 270) = R0 at hcx
    obtain ⟨k1, k2, k3⟩ := hc_fB h5 (show lw_twC[34]? = some 31 by decide +kernel) (i := 7) rfl rfl
    have hn2 : ¬ meQ (cg ws 34 7 = 1) x y := fun z => hn ⟨z.1, z.2.1, z.2.2.1, by
      show lw_at ws (34, 7) = _
      rw [k1, z.2.2.2]⟩
    obtain ⟨st, hr⟩ := hl_meanN (g := cg ws) (l := cl_ ws) (a := ca ws) (b := cb ws) (R := cR (cg ws) (cl_ ws) (ca ws) (cb ws) R0) (i01 ⟨k2, k3⟩) hn2
    exact ⟨.int 0, _, Nat.zero_le 1, by rw [hcx]; exact cx_of hr (fun j hj => ⟨fm_un (by omega), rfl, rfl⟩), rfl⟩
  · rintro av ws ws' v ha ⟨⟨h0, h1⟩, h2⟩
    obtain ⟨x, y, rfl⟩ := av2 ha
    refine ⟨⟨h0.1, fun z hz => h0.2 z (List.mem_append_right _ hz)⟩, x, y, rfl, ?_⟩
    by_cases hq : meQ (me_T ws) x y
    · exact Or.inl ⟨hq, h1 x y rfl hq⟩
    · obtain ⟨mem', e, -⟩ := h2 ⟨x, y, rfl, hq⟩
      exact Or.inr ⟨hq, e⟩
def meM : SM := fun av g a b g' a' b' v => (∃ x y : Int32, av = [.int x, .int y] ∧ (meQ (0 ≤ (a 1 6).toInt) x y ∧ v = .int 1 ∨ ¬ meQ (0 ≤ (a 1 6).toInt) x y ∧ v = .int 0)) ∧ (∀ k ∈ mw_G, g' k = g k) ∧ a' 6 = a 6 ∧ (∀ i, fm_st i = true → a' 1 i = a 1 i) ∧ b' 2 = b 2
theorem meM_sem (hst : HS xt) : lw_sem l D xt gn_TY (gn_X lw_twM) ads lw_twM 18 368 [0, 0] [gn_i, gn_i] (fun av ws ws' v => QM meM av ws ws' v ∧ ∀ z ∈ mw_W, lw_at ws' z = lw_at ws z) := by
  refine lw_sem_imp (mx_sem (S := meM) (k := 14) (n := 2) hst gn_M0_ms (fun g tp bt a b xs hx hI => ?_)) ?_
  · obtain ⟨x0, xs0, rfl, hx0⟩ := fm_xsS hx
    obtain ⟨x1, xs1, rfl, hx1⟩ := fm_xsS hx0
    obtain rfl := List.length_eq_zero_iff.mp hx1
    obtain ⟨v0, mem0, hP, hf⟩ := fr_meanV (g := g) (tp := tp) (bt := bt) (a := a) (b := b) (sd := x0) (my := x1) Iff.rfl hI.2.1 (fm_I_gb hI)
    obtain ⟨v, g', tp', bt', a', b', hv, hE, hG, hb, hR⟩ := hP
    have hP2 : fm_PP gn_M0 g a b (v0, mem0) := fm_I_PZ (tp := tp) (bt := bt) hI ⟨v, g', tp', bt', a', b', hv.imp And.left And.left, hE, hG, hb, hR⟩
    obtain ⟨w, g2, tp2, bt2, a2, b2, e, p1, p2⟩ := hP2
    have em : fm g2 tp2 bt2 a2 b2 = fm g' tp' bt' a' b' := congrArg Prod.snd (e.symm.trans hR)
    have ev : w = v := Value.int.inj (Option.some.inj (congrArg Prod.fst (e.symm.trans hR)))
    cases e
    have ea6 : a2 6 = a' 6 := mk_row (n := 900) (ty := .byte) em rfl rfl
    have ea1 : a2 1 = a' 1 := mk_row (n := 5894) (ty := .int) em rfl rfl
    have eb2 : b2 2 = b' 2 := mk_rowL em
    refine ⟨w, g2, tp2, bt2, a2, b2, hf, p1, p2, ⟨x0, x1, rfl, ?_⟩, fun k hk => ?_, ea6.trans (hE.2.1 6 rfl), fun i hi => (congrFun ea1 i).trans (hE.2.2 i hi), eb2.trans (hb 2 (by decide) (by decide))⟩
    · rw [ev]
      rcases hv with ⟨rfl, h⟩ | ⟨rfl, h⟩
      · exact Or.inr ⟨h, rfl⟩
      · exact Or.inl ⟨h, rfl⟩
    · have h3 := hG.1 k (mw_Gok k hk)
      simp only [mw_G, List.mem_cons, List.not_mem_nil, or_false] at hk
      rcases hk with rfl | rfl | rfl | rfl
      · exact (Value.int.inj (Option.some.inj (fm_o_inj 10 em))).trans h3
      · exact (Value.int.inj (Option.some.inj (fm_o_inj 42 em))).trans h3
      · exact (Value.int.inj (Option.some.inj (fm_o_inj 16 em))).trans h3
      · exact (Value.int.inj (Option.some.inj (fm_o_inj 17 em))).trans h3
  · rintro av ws ws' v - ⟨hv, g, a, b, g', a', b', h1, h2, h3, hh, q1, q3, q4, q5⟩
    exact ⟨⟨hv, g, a, b, g', a', b', h1, h2, h3, hh, q1, q3, q4, q5⟩, mw_unW h1 (mw_eqV h2 q1 q3 (fun i hi => q4 i (mw_lt i hi).2) (fun i _ => congrFun q5 i))⟩
theorem me_cmp {av : List Value} {c0 m0 m1 : va_W} {u w : Value} (hR : WR c0 m0) (h1 : meVC av c0 u) (h2 : QM meM av m0 m1 w) : u = w := by
  obtain ⟨-, gm, am, bm, gm', am', bm', q1, q2, -, ⟨x, y, rfl, hw⟩, -⟩ := h2
  obtain ⟨x1, y1, e, hu⟩ := h1
  cases e
  obtain ⟨g, a, b, gm0, am0, bm0, k1, k2, k3⟩ := hR
  have hr := wrE_ext k3 (cw_un k1 k1) (mw_un k2 q1)
  have ht : me_T c0 ↔ 0 ≤ (am 1 6).toInt := by
    have e : lw_at c0 (34, 7) = some (.int (g 34 7)) := k1.1 (34, 7) (by decide)
    have h7 : g 34 7 = 1 ↔ 0 ≤ (am 1 6).toInt := hr.2.2.2.1.2
    unfold me_T
    rw [e, ← h7]
    exact ⟨fun z => Value.int.inj (Option.some.inj z), fun z => by rw [z]⟩
  have hqq : meQ (me_T c0) x y ↔ meQ (0 ≤ (am 1 6).toInt) x y := ⟨fun z => ⟨z.1, z.2.1, z.2.2.1, ht.mp z.2.2.2⟩, fun z => ⟨z.1, z.2.1, z.2.2.1, ht.mpr z.2.2.2⟩⟩
  rcases hu with ⟨h, rfl⟩ | ⟨h, rfl⟩ <;> rcases hw with ⟨h', rfl⟩ | ⟨h', rfl⟩
  · rfl
  · exact absurd (hqq.mp h) h'
  · exact absurd (hqq.mpr h') h
  · rfl
end MES
