section MH19_0
/-! ===== fx: an order of the TALES ===== -/
section F4865_order
variable {g : Nat → Int32} {tp bt : Int64} {a0 a : Nat → Nat → Int32} {b : Nat → Nat → Int64}
set_option maxHeartbeats 8000000 in
theorem fr_taleOrder11 {S E F C W n : Nat} (hxp : fm_xp g S E F) (hfl : fm_flt g) (hH : fm_th a0 C W) (hC : fm_TC a0 a n 11 0) : ∃ (v : Option Value) (mem' : fx_M), (fm_FTO a0 a g tp bt b S E n) (v, mem') ∧ fr_T 10 250 [.ref 0, .int 11, .int (nI (3846 + (6 * n)))] (fm g tp bt a b) v mem' := by
  have f1 : ∀ {a' : Nat → Nat → Int32} {x y : Int32}, fm_TC a0 a' n x y → a' 1 1 = a0 1 1 := fun z => z.2.1 1 (by omega)
  have f0 : ∀ {a' : Nat → Nat → Int32} {x y : Int32}, fm_TC a0 a' n x y → a' 1 0 = a0 1 0 := fun z => z.2.1 0 (by omega)
  have hn60 := hC.2.2.2.2.2.2.2.1
  refine fe_meth (F := fm_FTO a0 a g tp bt b S E n) (M := gk_m250) (by rfl) (by rfl) ?_
  refine fe_s 1 (pc' := 1) (lc' := [(0, .ref 0), (1, .int 11), (2, .int (nI (3846 + (6 * n))))]) (stk' := [.int 11]) (mem' := fm g tp bt a b) (fun _ _ _ => rfl) ?_
  refine fe_s 1 (pc' := 52) (lc' := [(0, .ref 0), (1, .int 11), (2, .int (nI (3846 + (6 * n))))]) (stk' := []) (mem' := fm g tp bt a b) (fun _ _ _ => rfl) ?_
  refine fe_s 4 (pc' := 56) (lc' := [(0, .ref 0), (1, .int 11), (2, .int (nI (3846 + (6 * n))))]) (stk' := [.int ((nI (3846 + (6 * n))) + 1), .ref 0]) (mem' := fm g tp bt a b) (fun _ _ _ => rfl) ?_
  rw [show ((nI (3846 + (6 * n))) + 1 : Int32) = nI ((3846 + (6 * n)) + 1) from by simp only [show (1 : Int32) = nI 1 from rfl, nI_add, fm_mul]]
  obtain ⟨vo1, memo1, ⟨xo1, go1, Eo1, Fo1, ao1, hoo1, hvo1, hRo1⟩, hfro1⟩ := fr_walkerTo (T := (3846 + (6 * n)) + 1) (g := g) (tp := tp) (bt := bt) (a := a) (b := b) (fm_go_rf hxp hfl).2.1 (fm_go_rf hxp hfl).2.2.1 (by have := hC.2.2.2.2.2.2.2.1; omega) ((f1 hC).trans hH.2.2.1) hH.2.2.2
  cases hRo1
  have goo1 := fm_go_tr (fm_go_rf hxp hfl) hoo1
  refine fe_ivV hfro1 (by omega) (by rfl) (by rfl) (by rfl) (by rfl) (by rfl) (by rfl) ?_
  rcases hvo1 with ⟨rfl, hzo1, hao1⟩ | ⟨rfl, heo1, hpo1, ko1, hko1, hao1⟩
  · obtain ⟨yo1, hCo1⟩ : ∃ y, fm_TC a0 ao1 n 11 y := by
      rcases hao1 with e | e
      · exact ⟨_, by rw [e]; exact hC⟩
      · exact ⟨_, by rw [e, show (3846 + (6 * n)) + 1 = 3847 + 6 * n by omega]; exact fm_TC_1 hC (by decide) (by decide)⟩
    have h8o1 : ao1 8 = a 8 := hao1.elim (fun e => (congrFun e 8).trans rfl) (fun e => (congrFun e 8).trans ((fm_ut (by decide)).trans rfl))
    refine fe_s 1 (pc' := cond (fx_cb .eq 0 0) 87 62) (lc' := [(0, .ref 0), (1, .int 11), (2, .int (nI (3846 + (6 * n))))]) (stk' := []) (mem' := fm go1 tp bt ao1 b) (fun _ _ _ => rfl) ?_
    rw [show (fx_cb .eq 0 0) = true from by decide]
    dsimp only [cond]
    refine fe_s 1 (pc' := 88) (lc' := [(0, .ref 0), (1, .int 11), (2, .int (nI (3846 + (6 * n))))]) (stk' := [.int 0]) (mem' := fm go1 tp bt ao1 b) (fun _ _ _ => rfl) ?_
    exact fe_ret ⟨_, _, _, _, _, _, _, goo1, hCo1, h8o1, Or.inl ⟨rfl, hzo1⟩, rfl⟩ (by rfl) (by rfl) (by rfl)
  · have e18o1 : go1 18 = g 18 := heo1.trans rfl
    have pro1 : go1 12 = 0 ∨ E < Eo1 := hpo1.imp id (fun z => by have := (fm_go_rf hxp hfl).2.2.2; omega)
    have hk9o1 : ko1 < 8 := by have := hH.2.2.2; omega
    have hCo1 : fm_TC a0 ao1 n 11 (nI ko1) := by rw [hao1]; rw [show (3846 + (6 * n)) + 1 = 3847 + 6 * n by omega]; exact fm_TC_1 hC (by rw [nI_i32 (by omega)]; omega) (by rw [nI_i32 (by omega)]; omega)
    have h8o1 : ao1 8 = a 8 := (congrFun hao1 8).trans ((fm_ut (by decide)).trans rfl)
    refine fe_s 1 (pc' := cond (fx_cb .eq 1 0) 87 62) (lc' := [(0, .ref 0), (1, .int 11), (2, .int (nI (3846 + (6 * n))))]) (stk' := []) (mem' := fm go1 tp bt ao1 b) (fun _ _ _ => rfl) ?_
    rw [show (fx_cb .eq 1 0) = false from by decide]
    dsimp only [cond]
    refine fe_s 3 (pc' := 67) (lc' := [(0, .ref 0), (1, .int 11), (2, .int (nI (3846 + (6 * n))))]) (stk' := [.int 16, .ref 22, .ref 0]) (mem' := fm go1 tp bt ao1 b) (fun _ _ _ => rfl) ?_
    obtain ⟨xc2, gc2, Ec2, Fc2, hfrc2, hoc2, hvc2⟩ := fr_wantWordq (k := 16) (g := go1) (tp := tp) (bt := bt) (a := ao1) (b := b) goo1.2.1 goo1.2.2.1
    have goc2 := fm_go_tr goo1 hoc2
    refine fe_ivV hfrc2 (by omega) (by rfl) (by rfl) (by rfl) (by rfl) (by rfl) (by rfl) ?_
    rcases hvc2 with ⟨rfl, hzc2⟩ | ⟨rfl, hec2, hpc2⟩
    · refine fe_s 1 (pc' := cond (fx_cb .eq 0 0) 87 73) (lc' := [(0, .ref 0), (1, .int 11), (2, .int (nI (3846 + (6 * n))))]) (stk' := []) (mem' := fm gc2 tp bt ao1 b) (fun _ _ _ => rfl) ?_
      rw [show (fx_cb .eq 0 0) = true from by decide]
      dsimp only [cond]
      refine fe_s 1 (pc' := 88) (lc' := [(0, .ref 0), (1, .int 11), (2, .int (nI (3846 + (6 * n))))]) (stk' := [.int 0]) (mem' := fm gc2 tp bt ao1 b) (fun _ _ _ => rfl) ?_
      exact fe_ret ⟨_, _, _, _, _, _, _, goc2, hCo1, h8o1, Or.inl ⟨rfl, hzc2⟩, rfl⟩ (by rfl) (by rfl) (by rfl)
    · have e18c2 : gc2 18 = g 18 := hec2.trans e18o1
      have prc2 : gc2 12 = 0 ∨ E < Ec2 := hpc2.imp id (fun z => by have := goo1.2.2.2; omega)
      refine fe_s 1 (pc' := cond (fx_cb .eq 1 0) 87 73) (lc' := [(0, .ref 0), (1, .int 11), (2, .int (nI (3846 + (6 * n))))]) (stk' := []) (mem' := fm gc2 tp bt ao1 b) (fun _ _ _ => rfl) ?_
      rw [show (fx_cb .eq 1 0) = false from by decide]
      dsimp only [cond]
      refine fe_s 4 (pc' := 77) (lc' := [(0, .ref 0), (1, .int 11), (2, .int (nI (3846 + (6 * n))))]) (stk' := [.int ((nI (3846 + (6 * n))) + 2), .ref 0]) (mem' := fm gc2 tp bt ao1 b) (fun _ _ _ => rfl) ?_
      rw [show ((nI (3846 + (6 * n))) + 2 : Int32) = nI ((3846 + (6 * n)) + 2) from by simp only [show (2 : Int32) = nI 2 from rfl, nI_add, fm_mul]]
      obtain ⟨vo3, memo3, ⟨xo3, go3, Eo3, Fo3, ao3, hoo3, hvo3, hRo3⟩, hfro3⟩ := fr_cellTo (T := (3846 + (6 * n)) + 2) (g := gc2) (tp := tp) (bt := bt) (a := ao1) (b := b) goc2.2.1 goc2.2.2.1 (by have := hCo1.2.2.2.2.2.2.2.1; omega) ((f0 hCo1).trans hH.1) hH.2.1
      cases hRo3
      have goo3 := fm_go_tr goc2 hoo3
      refine fe_ivV hfro3 (by omega) (by rfl) (by rfl) (by rfl) (by rfl) (by rfl) (by rfl) ?_
      rcases hvo3 with ⟨rfl, hzo3, hao3⟩ | ⟨rfl, heo3, hpo3, ko3, hko3, hao3⟩
      · obtain ⟨yo3, hCo3⟩ : ∃ y, fm_TC a0 ao3 n 11 y := by
          rcases hao3 with e | e
          · exact ⟨_, by rw [e]; exact hCo1⟩
          · exact ⟨_, by rw [e, show (3846 + (6 * n)) + 2 = 3848 + 6 * n by omega]; exact fm_TC_2 hCo1 (by decide) (by decide)⟩
        have h8o3 : ao3 8 = a 8 := hao3.elim (fun e => (congrFun e 8).trans h8o1) (fun e => (congrFun e 8).trans ((fm_ut (by decide)).trans h8o1))
        refine fe_s 1 (pc' := cond (fx_cb .eq 0 0) 87 83) (lc' := [(0, .ref 0), (1, .int 11), (2, .int (nI (3846 + (6 * n))))]) (stk' := []) (mem' := fm go3 tp bt ao3 b) (fun _ _ _ => rfl) ?_
        rw [show (fx_cb .eq 0 0) = true from by decide]
        dsimp only [cond]
        refine fe_s 1 (pc' := 88) (lc' := [(0, .ref 0), (1, .int 11), (2, .int (nI (3846 + (6 * n))))]) (stk' := [.int 0]) (mem' := fm go3 tp bt ao3 b) (fun _ _ _ => rfl) ?_
        exact fe_ret ⟨_, _, _, _, _, _, _, goo3, hCo3, h8o3, Or.inl ⟨rfl, hzo3⟩, rfl⟩ (by rfl) (by rfl) (by rfl)
      · have e18o3 : go3 18 = g 18 := heo3.trans e18c2
        have pro3 : go3 12 = 0 ∨ E < Eo3 := hpo3.imp id (fun z => by have := goc2.2.2.2; omega)
        have hk9o3 : ko3 < 10 := by have := hH.2.1; omega
        have hCo3 : fm_TC a0 ao3 n 11 (nI ko1) := by rw [hao3]; rw [show (3846 + (6 * n)) + 2 = 3848 + 6 * n by omega]; exact fm_TC_2 hCo1 (by rw [nI_i32 (by omega)]; omega) (by rw [nI_i32 (by omega)]; omega)
        have h8o3 : ao3 8 = a 8 := (congrFun hao3 8).trans ((fm_ut (by decide)).trans h8o1)
        refine fe_s 1 (pc' := cond (fx_cb .eq 1 0) 87 83) (lc' := [(0, .ref 0), (1, .int 11), (2, .int (nI (3846 + (6 * n))))]) (stk' := []) (mem' := fm go3 tp bt ao3 b) (fun _ _ _ => rfl) ?_
        rw [show (fx_cb .eq 1 0) = false from by decide]
        dsimp only [cond]
        refine fe_s 2 (pc' := 88) (lc' := [(0, .ref 0), (1, .int 11), (2, .int (nI (3846 + (6 * n))))]) (stk' := [.int 1]) (mem' := fm go3 tp bt ao3 b) (fun _ _ _ => rfl) ?_
        exact fe_ret ⟨_, _, _, _, _, _, _, goo3, hCo3, h8o3, Or.inr ⟨rfl, e18o3, fm_ro_w (by rw [nI_i32 (by omega)]; omega) (by rw [nI_i32 (by omega)]; omega)⟩, rfl⟩ (by rfl) (by rfl) (by rfl)
set_option maxHeartbeats 8000000 in
theorem fr_taleOrder12 {S E F C W n : Nat} (hxp : fm_xp g S E F) (hfl : fm_flt g) (hH : fm_th a0 C W) (hC : fm_TC a0 a n 12 0) : ∃ (v : Option Value) (mem' : fx_M), (fm_FTO a0 a g tp bt b S E n) (v, mem') ∧ fr_T 10 250 [.ref 0, .int 12, .int (nI (3846 + (6 * n)))] (fm g tp bt a b) v mem' := by
  have f1 : ∀ {a' : Nat → Nat → Int32} {x y : Int32}, fm_TC a0 a' n x y → a' 1 1 = a0 1 1 := fun z => z.2.1 1 (by omega)
  have f0 : ∀ {a' : Nat → Nat → Int32} {x y : Int32}, fm_TC a0 a' n x y → a' 1 0 = a0 1 0 := fun z => z.2.1 0 (by omega)
  have hn60 := hC.2.2.2.2.2.2.2.1
  refine fe_meth (F := fm_FTO a0 a g tp bt b S E n) (M := gk_m250) (by rfl) (by rfl) ?_
  refine fe_s 1 (pc' := 1) (lc' := [(0, .ref 0), (1, .int 12), (2, .int (nI (3846 + (6 * n))))]) (stk' := [.int 12]) (mem' := fm g tp bt a b) (fun _ _ _ => rfl) ?_
  refine fe_s 1 (pc' := 89) (lc' := [(0, .ref 0), (1, .int 12), (2, .int (nI (3846 + (6 * n))))]) (stk' := []) (mem' := fm g tp bt a b) (fun _ _ _ => rfl) ?_
  refine fe_s 6 (pc' := 96) (lc' := [(0, .ref 0), (1, .int 12), (2, .int (nI (3846 + (6 * n))))]) (stk' := [.int 20, .int 1, .int ((nI (3846 + (6 * n))) + 1), .ref 0]) (mem' := fm g tp bt a b) (fun _ _ _ => rfl) ?_
  rw [show ((nI (3846 + (6 * n))) + 1 : Int32) = nI ((3846 + (6 * n)) + 1) from by simp only [show (1 : Int32) = nI 1 from rfl, nI_add, fm_mul]]
  obtain ⟨xm1, gm1, Em1, Fm1, am1, hfrm1, hom1, hvm1⟩ := fr_numberq (T := (3846 + (6 * n)) + 1) (lo := 1) (hi := 20) (g := g) (tp := tp) (bt := bt) (a := a) (b := b) (by have := hC.2.2.2.2.2.2.2.1; omega) (fm_go_rf hxp hfl).2.1 (fm_go_rf hxp hfl).2.2.1
  have gom1 := fm_go_tr (fm_go_rf hxp hfl) hom1
  refine fe_ivV hfrm1 (by omega) (by rfl) (by rfl) (by rfl) (by rfl) (by rfl) (by rfl) ?_
  rcases hvm1 with ⟨rfl, hzm1, ham1⟩ | ⟨rfl, hem1, hpm1, ym1, hlm1, hum1, ham1⟩
  · have hCm1 : fm_TC a0 am1 n 12 0 := by rw [ham1]; exact hC
    have h8m1 : am1 8 = a 8 := (congrFun ham1 8).trans rfl
    exact fe_ret ⟨_, _, _, _, _, _, _, gom1, hCm1, h8m1, Or.inl ⟨rfl, hzm1⟩, rfl⟩ (by rfl) (by rfl) (by rfl)
  · have e18m1 : gm1 18 = g 18 := hem1.trans rfl
    have prm1 : gm1 12 = 0 ∨ E < Em1 := hpm1.imp id (fun z => by have := (fm_go_rf hxp hfl).2.2.2; omega)
    have lm1 : 1 ≤ ym1.toInt := (by have z := Int32.le_iff_toInt_le.mp hlm1; rw [show ((1 : Int32).toInt) = 1 from rfl] at z; omega)
    have um1 : ym1.toInt ≤ 20 := (by have z := Int32.le_iff_toInt_le.mp hum1; rw [show ((20 : Int32).toInt) = 20 from rfl] at z; omega)
    have hCm1 : fm_TC a0 am1 n 12 ym1 := by rw [ham1]; rw [show (3846 + (6 * n)) + 1 = 3847 + 6 * n by omega]; exact fm_TC_1 hC (by omega) (by omega)
    have h8m1 : am1 8 = a 8 := (congrFun ham1 8).trans ((fm_ut (by decide)).trans rfl)
    exact fe_ret ⟨_, _, _, _, _, _, _, gom1, hCm1, h8m1, Or.inr ⟨rfl, e18m1, fm_ro_s (by omega) (by omega) (by decide) (by decide)⟩, rfl⟩ (by rfl) (by rfl) (by rfl)
set_option maxHeartbeats 8000000 in
theorem fr_taleOrder13 {S E F C W n : Nat} (hxp : fm_xp g S E F) (hfl : fm_flt g) (hH : fm_th a0 C W) (hC : fm_TC a0 a n 13 0) : ∃ (v : Option Value) (mem' : fx_M), (fm_FTO a0 a g tp bt b S E n) (v, mem') ∧ fr_T 10 250 [.ref 0, .int 13, .int (nI (3846 + (6 * n)))] (fm g tp bt a b) v mem' := by
  have f1 : ∀ {a' : Nat → Nat → Int32} {x y : Int32}, fm_TC a0 a' n x y → a' 1 1 = a0 1 1 := fun z => z.2.1 1 (by omega)
  have f0 : ∀ {a' : Nat → Nat → Int32} {x y : Int32}, fm_TC a0 a' n x y → a' 1 0 = a0 1 0 := fun z => z.2.1 0 (by omega)
  have hn60 := hC.2.2.2.2.2.2.2.1
  refine fe_meth (F := fm_FTO a0 a g tp bt b S E n) (M := gk_m250) (by rfl) (by rfl) ?_
  refine fe_s 1 (pc' := 1) (lc' := [(0, .ref 0), (1, .int 13), (2, .int (nI (3846 + (6 * n))))]) (stk' := [.int 13]) (mem' := fm g tp bt a b) (fun _ _ _ => rfl) ?_
  refine fe_s 1 (pc' := 89) (lc' := [(0, .ref 0), (1, .int 13), (2, .int (nI (3846 + (6 * n))))]) (stk' := []) (mem' := fm g tp bt a b) (fun _ _ _ => rfl) ?_
  refine fe_s 6 (pc' := 96) (lc' := [(0, .ref 0), (1, .int 13), (2, .int (nI (3846 + (6 * n))))]) (stk' := [.int 20, .int 1, .int ((nI (3846 + (6 * n))) + 1), .ref 0]) (mem' := fm g tp bt a b) (fun _ _ _ => rfl) ?_
  rw [show ((nI (3846 + (6 * n))) + 1 : Int32) = nI ((3846 + (6 * n)) + 1) from by simp only [show (1 : Int32) = nI 1 from rfl, nI_add, fm_mul]]
  obtain ⟨xm1, gm1, Em1, Fm1, am1, hfrm1, hom1, hvm1⟩ := fr_numberq (T := (3846 + (6 * n)) + 1) (lo := 1) (hi := 20) (g := g) (tp := tp) (bt := bt) (a := a) (b := b) (by have := hC.2.2.2.2.2.2.2.1; omega) (fm_go_rf hxp hfl).2.1 (fm_go_rf hxp hfl).2.2.1
  have gom1 := fm_go_tr (fm_go_rf hxp hfl) hom1
  refine fe_ivV hfrm1 (by omega) (by rfl) (by rfl) (by rfl) (by rfl) (by rfl) (by rfl) ?_
  rcases hvm1 with ⟨rfl, hzm1, ham1⟩ | ⟨rfl, hem1, hpm1, ym1, hlm1, hum1, ham1⟩
  · have hCm1 : fm_TC a0 am1 n 13 0 := by rw [ham1]; exact hC
    have h8m1 : am1 8 = a 8 := (congrFun ham1 8).trans rfl
    exact fe_ret ⟨_, _, _, _, _, _, _, gom1, hCm1, h8m1, Or.inl ⟨rfl, hzm1⟩, rfl⟩ (by rfl) (by rfl) (by rfl)
  · have e18m1 : gm1 18 = g 18 := hem1.trans rfl
    have prm1 : gm1 12 = 0 ∨ E < Em1 := hpm1.imp id (fun z => by have := (fm_go_rf hxp hfl).2.2.2; omega)
    have lm1 : 1 ≤ ym1.toInt := (by have z := Int32.le_iff_toInt_le.mp hlm1; rw [show ((1 : Int32).toInt) = 1 from rfl] at z; omega)
    have um1 : ym1.toInt ≤ 20 := (by have z := Int32.le_iff_toInt_le.mp hum1; rw [show ((20 : Int32).toInt) = 20 from rfl] at z; omega)
    have hCm1 : fm_TC a0 am1 n 13 ym1 := by rw [ham1]; rw [show (3846 + (6 * n)) + 1 = 3847 + 6 * n by omega]; exact fm_TC_1 hC (by omega) (by omega)
    have h8m1 : am1 8 = a 8 := (congrFun ham1 8).trans ((fm_ut (by decide)).trans rfl)
    exact fe_ret ⟨_, _, _, _, _, _, _, gom1, hCm1, h8m1, Or.inr ⟨rfl, e18m1, fm_ro_n (by decide) (by decide) (by decide) (by decide) (by decide)⟩, rfl⟩ (by rfl) (by rfl) (by rfl)
set_option maxHeartbeats 8000000 in
theorem fr_taleOrder14 {S E F C W n : Nat} (hxp : fm_xp g S E F) (hfl : fm_flt g) (hH : fm_th a0 C W) (hC : fm_TC a0 a n 14 0) : ∃ (v : Option Value) (mem' : fx_M), (fm_FTO a0 a g tp bt b S E n) (v, mem') ∧ fr_T 10 250 [.ref 0, .int 14, .int (nI (3846 + (6 * n)))] (fm g tp bt a b) v mem' := by
  have f1 : ∀ {a' : Nat → Nat → Int32} {x y : Int32}, fm_TC a0 a' n x y → a' 1 1 = a0 1 1 := fun z => z.2.1 1 (by omega)
  have f0 : ∀ {a' : Nat → Nat → Int32} {x y : Int32}, fm_TC a0 a' n x y → a' 1 0 = a0 1 0 := fun z => z.2.1 0 (by omega)
  have hn60 := hC.2.2.2.2.2.2.2.1
  refine fe_meth (F := fm_FTO a0 a g tp bt b S E n) (M := gk_m250) (by rfl) (by rfl) ?_
  refine fe_s 1 (pc' := 1) (lc' := [(0, .ref 0), (1, .int 14), (2, .int (nI (3846 + (6 * n))))]) (stk' := [.int 14]) (mem' := fm g tp bt a b) (fun _ _ _ => rfl) ?_
  refine fe_s 1 (pc' := 89) (lc' := [(0, .ref 0), (1, .int 14), (2, .int (nI (3846 + (6 * n))))]) (stk' := []) (mem' := fm g tp bt a b) (fun _ _ _ => rfl) ?_
  refine fe_s 6 (pc' := 96) (lc' := [(0, .ref 0), (1, .int 14), (2, .int (nI (3846 + (6 * n))))]) (stk' := [.int 20, .int 1, .int ((nI (3846 + (6 * n))) + 1), .ref 0]) (mem' := fm g tp bt a b) (fun _ _ _ => rfl) ?_
  rw [show ((nI (3846 + (6 * n))) + 1 : Int32) = nI ((3846 + (6 * n)) + 1) from by simp only [show (1 : Int32) = nI 1 from rfl, nI_add, fm_mul]]
  obtain ⟨xm1, gm1, Em1, Fm1, am1, hfrm1, hom1, hvm1⟩ := fr_numberq (T := (3846 + (6 * n)) + 1) (lo := 1) (hi := 20) (g := g) (tp := tp) (bt := bt) (a := a) (b := b) (by have := hC.2.2.2.2.2.2.2.1; omega) (fm_go_rf hxp hfl).2.1 (fm_go_rf hxp hfl).2.2.1
  have gom1 := fm_go_tr (fm_go_rf hxp hfl) hom1
  refine fe_ivV hfrm1 (by omega) (by rfl) (by rfl) (by rfl) (by rfl) (by rfl) (by rfl) ?_
  rcases hvm1 with ⟨rfl, hzm1, ham1⟩ | ⟨rfl, hem1, hpm1, ym1, hlm1, hum1, ham1⟩
  · have hCm1 : fm_TC a0 am1 n 14 0 := by rw [ham1]; exact hC
    have h8m1 : am1 8 = a 8 := (congrFun ham1 8).trans rfl
    exact fe_ret ⟨_, _, _, _, _, _, _, gom1, hCm1, h8m1, Or.inl ⟨rfl, hzm1⟩, rfl⟩ (by rfl) (by rfl) (by rfl)
  · have e18m1 : gm1 18 = g 18 := hem1.trans rfl
    have prm1 : gm1 12 = 0 ∨ E < Em1 := hpm1.imp id (fun z => by have := (fm_go_rf hxp hfl).2.2.2; omega)
    have lm1 : 1 ≤ ym1.toInt := (by have z := Int32.le_iff_toInt_le.mp hlm1; rw [show ((1 : Int32).toInt) = 1 from rfl] at z; omega)
    have um1 : ym1.toInt ≤ 20 := (by have z := Int32.le_iff_toInt_le.mp hum1; rw [show ((20 : Int32).toInt) = 20 from rfl] at z; omega)
    have hCm1 : fm_TC a0 am1 n 14 ym1 := by rw [ham1]; rw [show (3846 + (6 * n)) + 1 = 3847 + 6 * n by omega]; exact fm_TC_1 hC (by omega) (by omega)
    have h8m1 : am1 8 = a 8 := (congrFun ham1 8).trans ((fm_ut (by decide)).trans rfl)
    exact fe_ret ⟨_, _, _, _, _, _, _, gom1, hCm1, h8m1, Or.inr ⟨rfl, e18m1, fm_ro_n (by decide) (by decide) (by decide) (by decide) (by decide)⟩, rfl⟩ (by rfl) (by rfl) (by rfl)
set_option maxHeartbeats 8000000 in
theorem fr_taleOrder15 {S E F C W n : Nat} (hxp : fm_xp g S E F) (hfl : fm_flt g) (hH : fm_th a0 C W) (hC : fm_TC a0 a n 15 0) : ∃ (v : Option Value) (mem' : fx_M), (fm_FTO a0 a g tp bt b S E n) (v, mem') ∧ fr_T 10 250 [.ref 0, .int 15, .int (nI (3846 + (6 * n)))] (fm g tp bt a b) v mem' := by
  have f1 : ∀ {a' : Nat → Nat → Int32} {x y : Int32}, fm_TC a0 a' n x y → a' 1 1 = a0 1 1 := fun z => z.2.1 1 (by omega)
  have f0 : ∀ {a' : Nat → Nat → Int32} {x y : Int32}, fm_TC a0 a' n x y → a' 1 0 = a0 1 0 := fun z => z.2.1 0 (by omega)
  have hn60 := hC.2.2.2.2.2.2.2.1
  refine fe_meth (F := fm_FTO a0 a g tp bt b S E n) (M := gk_m250) (by rfl) (by rfl) ?_
  refine fe_s 1 (pc' := 1) (lc' := [(0, .ref 0), (1, .int 15), (2, .int (nI (3846 + (6 * n))))]) (stk' := [.int 15]) (mem' := fm g tp bt a b) (fun _ _ _ => rfl) ?_
  refine fe_s 1 (pc' := 117) (lc' := [(0, .ref 0), (1, .int 15), (2, .int (nI (3846 + (6 * n))))]) (stk' := []) (mem' := fm g tp bt a b) (fun _ _ _ => rfl) ?_
  refine fe_s 1 (pc' := 118) (lc' := [(0, .ref 0), (1, .int 15), (2, .int (nI (3846 + (6 * n))))]) (stk' := [.int 1]) (mem' := fm g tp bt a b) (fun _ _ _ => rfl) ?_
  exact fe_ret ⟨_, _, _, _, _, _, _, (fm_go_rf hxp hfl), hC, rfl, Or.inr ⟨rfl, rfl, fm_ro_n (by decide) (by decide) (by decide) (by decide) (by decide)⟩, rfl⟩ (by rfl) (by rfl) (by rfl)
set_option maxHeartbeats 8000000 in
theorem fr_taleOrder18 {S E F C W n : Nat} (hxp : fm_xp g S E F) (hfl : fm_flt g) (hH : fm_th a0 C W) (hC : fm_TC a0 a n 18 0) : ∃ (v : Option Value) (mem' : fx_M), (fm_FTO a0 a g tp bt b S E n) (v, mem') ∧ fr_T 10 250 [.ref 0, .int 18, .int (nI (3846 + (6 * n)))] (fm g tp bt a b) v mem' := by
  have f1 : ∀ {a' : Nat → Nat → Int32} {x y : Int32}, fm_TC a0 a' n x y → a' 1 1 = a0 1 1 := fun z => z.2.1 1 (by omega)
  have f0 : ∀ {a' : Nat → Nat → Int32} {x y : Int32}, fm_TC a0 a' n x y → a' 1 0 = a0 1 0 := fun z => z.2.1 0 (by omega)
  have hn60 := hC.2.2.2.2.2.2.2.1
  refine fe_meth (F := fm_FTO a0 a g tp bt b S E n) (M := gk_m250) (by rfl) (by rfl) ?_
  refine fe_s 1 (pc' := 1) (lc' := [(0, .ref 0), (1, .int 18), (2, .int (nI (3846 + (6 * n))))]) (stk' := [.int 18]) (mem' := fm g tp bt a b) (fun _ _ _ => rfl) ?_
  refine fe_s 1 (pc' := 100) (lc' := [(0, .ref 0), (1, .int 18), (2, .int (nI (3846 + (6 * n))))]) (stk' := []) (mem' := fm g tp bt a b) (fun _ _ _ => rfl) ?_
  refine fe_s 2 (pc' := 102) (lc' := [(0, .ref 0), (1, .int 18), (2, .int (nI (3846 + (6 * n))))]) (stk' := [.int (nI (3846 + (6 * n))), .ref 0]) (mem' := fm g tp bt a b) (fun _ _ _ => rfl) ?_
  obtain ⟨vp1, memp1, ⟨xp1, gp1, Ep1, Fp1, ap1, Xp1, Yp1, hop1, hCp1, h8p1, hvp1, hRp1⟩, hfrp1⟩ := fr_test (g := g) (tp := tp) (bt := bt) (a := a) (b := b) (a0 := a0) (fm_go_rf hxp hfl).2.1 (fm_go_rf hxp hfl).2.2.1 hH hC
  cases hRp1
  have gop1 := fm_go_tr (fm_go_rf hxp hfl) hop1
  refine fe_ivV hfrp1 (by omega) (by rfl) (by rfl) (by rfl) (by rfl) (by rfl) (by rfl) ?_
  rcases hvp1 with ⟨rfl, hzp1⟩ | ⟨rfl, hep1, hrop1⟩
  · exact fe_ret ⟨_, _, _, _, _, _, _, gop1, hCp1, h8p1, Or.inl ⟨rfl, hzp1⟩, rfl⟩ (by rfl) (by rfl) (by rfl)
  · have e18p1 : gp1 18 = g 18 := hep1.trans rfl
    exact fe_ret ⟨_, _, _, _, _, _, _, gop1, hCp1, h8p1, Or.inr ⟨rfl, e18p1, hrop1⟩, rfl⟩ (by rfl) (by rfl) (by rfl)
set_option maxHeartbeats 8000000 in
theorem fr_taleOrder19 {S E F C W n : Nat} (hxp : fm_xp g S E F) (hfl : fm_flt g) (hH : fm_th a0 C W) (hC : fm_TC a0 a n 19 0) : ∃ (v : Option Value) (mem' : fx_M), (fm_FTO a0 a g tp bt b S E n) (v, mem') ∧ fr_T 10 250 [.ref 0, .int 19, .int (nI (3846 + (6 * n)))] (fm g tp bt a b) v mem' := by
  have f1 : ∀ {a' : Nat → Nat → Int32} {x y : Int32}, fm_TC a0 a' n x y → a' 1 1 = a0 1 1 := fun z => z.2.1 1 (by omega)
  have f0 : ∀ {a' : Nat → Nat → Int32} {x y : Int32}, fm_TC a0 a' n x y → a' 1 0 = a0 1 0 := fun z => z.2.1 0 (by omega)
  have hn60 := hC.2.2.2.2.2.2.2.1
  refine fe_meth (F := fm_FTO a0 a g tp bt b S E n) (M := gk_m250) (by rfl) (by rfl) ?_
  refine fe_s 1 (pc' := 1) (lc' := [(0, .ref 0), (1, .int 19), (2, .int (nI (3846 + (6 * n))))]) (stk' := [.int 19]) (mem' := fm g tp bt a b) (fun _ _ _ => rfl) ?_
  refine fe_s 1 (pc' := 106) (lc' := [(0, .ref 0), (1, .int 19), (2, .int (nI (3846 + (6 * n))))]) (stk' := []) (mem' := fm g tp bt a b) (fun _ _ _ => rfl) ?_
  refine fe_s 6 (pc' := 113) (lc' := [(0, .ref 0), (1, .int 19), (2, .int (nI (3846 + (6 * n))))]) (stk' := [.int 99, .int 1, .int ((nI (3846 + (6 * n))) + 1), .ref 0]) (mem' := fm g tp bt a b) (fun _ _ _ => rfl) ?_
  rw [show ((nI (3846 + (6 * n))) + 1 : Int32) = nI ((3846 + (6 * n)) + 1) from by simp only [show (1 : Int32) = nI 1 from rfl, nI_add, fm_mul]]
  obtain ⟨xm1, gm1, Em1, Fm1, am1, hfrm1, hom1, hvm1⟩ := fr_numberq (T := (3846 + (6 * n)) + 1) (lo := 1) (hi := 99) (g := g) (tp := tp) (bt := bt) (a := a) (b := b) (by have := hC.2.2.2.2.2.2.2.1; omega) (fm_go_rf hxp hfl).2.1 (fm_go_rf hxp hfl).2.2.1
  have gom1 := fm_go_tr (fm_go_rf hxp hfl) hom1
  refine fe_ivV hfrm1 (by omega) (by rfl) (by rfl) (by rfl) (by rfl) (by rfl) (by rfl) ?_
  rcases hvm1 with ⟨rfl, hzm1, ham1⟩ | ⟨rfl, hem1, hpm1, ym1, hlm1, hum1, ham1⟩
  · have hCm1 : fm_TC a0 am1 n 19 0 := by rw [ham1]; exact hC
    have h8m1 : am1 8 = a 8 := (congrFun ham1 8).trans rfl
    exact fe_ret ⟨_, _, _, _, _, _, _, gom1, hCm1, h8m1, Or.inl ⟨rfl, hzm1⟩, rfl⟩ (by rfl) (by rfl) (by rfl)
  · have e18m1 : gm1 18 = g 18 := hem1.trans rfl
    have prm1 : gm1 12 = 0 ∨ E < Em1 := hpm1.imp id (fun z => by have := (fm_go_rf hxp hfl).2.2.2; omega)
    have lm1 : 1 ≤ ym1.toInt := (by have z := Int32.le_iff_toInt_le.mp hlm1; rw [show ((1 : Int32).toInt) = 1 from rfl] at z; omega)
    have um1 : ym1.toInt ≤ 99 := (by have z := Int32.le_iff_toInt_le.mp hum1; rw [show ((99 : Int32).toInt) = 99 from rfl] at z; omega)
    have hCm1 : fm_TC a0 am1 n 19 ym1 := by rw [ham1]; rw [show (3846 + (6 * n)) + 1 = 3847 + 6 * n by omega]; exact fm_TC_1 hC (by omega) (by omega)
    have h8m1 : am1 8 = a 8 := (congrFun ham1 8).trans ((fm_ut (by decide)).trans rfl)
    exact fe_ret ⟨_, _, _, _, _, _, _, gom1, hCm1, h8m1, Or.inr ⟨rfl, e18m1, fm_ro_n (by decide) (by decide) (by decide) (by decide) (by decide)⟩, rfl⟩ (by rfl) (by rfl) (by rfl)
set_option maxHeartbeats 8000000 in
theorem fr_taleOrder20 {S E F C W n : Nat} (hxp : fm_xp g S E F) (hfl : fm_flt g) (hH : fm_th a0 C W) (hC : fm_TC a0 a n 20 0) : ∃ (v : Option Value) (mem' : fx_M), (fm_FTO a0 a g tp bt b S E n) (v, mem') ∧ fr_T 10 250 [.ref 0, .int 20, .int (nI (3846 + (6 * n)))] (fm g tp bt a b) v mem' := by
  have f1 : ∀ {a' : Nat → Nat → Int32} {x y : Int32}, fm_TC a0 a' n x y → a' 1 1 = a0 1 1 := fun z => z.2.1 1 (by omega)
  have f0 : ∀ {a' : Nat → Nat → Int32} {x y : Int32}, fm_TC a0 a' n x y → a' 1 0 = a0 1 0 := fun z => z.2.1 0 (by omega)
  have hn60 := hC.2.2.2.2.2.2.2.1
  refine fe_meth (F := fm_FTO a0 a g tp bt b S E n) (M := gk_m250) (by rfl) (by rfl) ?_
  refine fe_s 1 (pc' := 1) (lc' := [(0, .ref 0), (1, .int 20), (2, .int (nI (3846 + (6 * n))))]) (stk' := [.int 20]) (mem' := fm g tp bt a b) (fun _ _ _ => rfl) ?_
  refine fe_s 1 (pc' := 117) (lc' := [(0, .ref 0), (1, .int 20), (2, .int (nI (3846 + (6 * n))))]) (stk' := []) (mem' := fm g tp bt a b) (fun _ _ _ => rfl) ?_
  refine fe_s 1 (pc' := 118) (lc' := [(0, .ref 0), (1, .int 20), (2, .int (nI (3846 + (6 * n))))]) (stk' := [.int 1]) (mem' := fm g tp bt a b) (fun _ _ _ => rfl) ?_
  exact fe_ret ⟨_, _, _, _, _, _, _, (fm_go_rf hxp hfl), hC, rfl, Or.inr ⟨rfl, rfl, fm_ro_n (by decide) (by decide) (by decide) (by decide) (by decide)⟩, rfl⟩ (by rfl) (by rfl) (by rfl)
set_option maxHeartbeats 8000000 in
theorem fr_taleOrder21 {S E F C W n : Nat} (hxp : fm_xp g S E F) (hfl : fm_flt g) (hH : fm_th a0 C W) (hC : fm_TC a0 a n 21 0) : ∃ (v : Option Value) (mem' : fx_M), (fm_FTO a0 a g tp bt b S E n) (v, mem') ∧ fr_T 10 250 [.ref 0, .int 21, .int (nI (3846 + (6 * n)))] (fm g tp bt a b) v mem' := by
  have f1 : ∀ {a' : Nat → Nat → Int32} {x y : Int32}, fm_TC a0 a' n x y → a' 1 1 = a0 1 1 := fun z => z.2.1 1 (by omega)
  have f0 : ∀ {a' : Nat → Nat → Int32} {x y : Int32}, fm_TC a0 a' n x y → a' 1 0 = a0 1 0 := fun z => z.2.1 0 (by omega)
  have hn60 := hC.2.2.2.2.2.2.2.1
  refine fe_meth (F := fm_FTO a0 a g tp bt b S E n) (M := gk_m250) (by rfl) (by rfl) ?_
  refine fe_s 1 (pc' := 1) (lc' := [(0, .ref 0), (1, .int 21), (2, .int (nI (3846 + (6 * n))))]) (stk' := [.int 21]) (mem' := fm g tp bt a b) (fun _ _ _ => rfl) ?_
  refine fe_s 1 (pc' := 117) (lc' := [(0, .ref 0), (1, .int 21), (2, .int (nI (3846 + (6 * n))))]) (stk' := []) (mem' := fm g tp bt a b) (fun _ _ _ => rfl) ?_
  refine fe_s 1 (pc' := 118) (lc' := [(0, .ref 0), (1, .int 21), (2, .int (nI (3846 + (6 * n))))]) (stk' := [.int 1]) (mem' := fm g tp bt a b) (fun _ _ _ => rfl) ?_
  exact fe_ret ⟨_, _, _, _, _, _, _, (fm_go_rf hxp hfl), hC, rfl, Or.inr ⟨rfl, rfl, fm_ro_n (by decide) (by decide) (by decide) (by decide) (by decide)⟩, rfl⟩ (by rfl) (by rfl) (by rfl)
theorem fr_taleOrder20x {r : Int32} {mem : fx_M} : fr_T 1 250 [.ref 0, .int 20, .int r] mem (some (.int 1)) mem := by
  refine fr_meth (by rfl) (by rfl) ?_
  refine fr_s 1 (pc' := 1) (lc' := [(0, .ref 0), (1, .int 20), (2, .int r)]) (stk' := [.int 20]) (mem' := mem) (fun _ _ _ => rfl) ?_
  refine fr_s 1 (pc' := 117) (lc' := [(0, .ref 0), (1, .int 20), (2, .int r)]) (stk' := []) (mem' := mem) (fun _ _ _ => rfl) ?_
  refine fr_s 1 (pc' := 118) (lc' := [(0, .ref 0), (1, .int 20), (2, .int r)]) (stk' := [.int 1]) (mem' := mem) (fun _ _ _ => rfl) ?_
  exact fr_ret (by rfl) (by rfl) (by rfl)
end F4865_order
end MH19_0
section MH19_1
/-! ===== fx: a STEP of the TALES ===== -/
section F4870_step
variable {g : Nat → Int32} {tp bt : Int64} {a0 a : Nat → Nat → Int32} {b : Nat → Nat → Int64}
set_option maxRecDepth 20000 in
set_option maxHeartbeats 8000000 in
theorem ts_m {S E F C W n D K : Nat} (hxp : fm_xp g S E F) (hfl : fm_flt g) (hH : fm_th a0 C W) (hT : fm_TS a0 g a n D K) (hR : fm_TR a n) : fe_R 10 gk_m251 7 [(1, .int (-1)), (0, .ref 0)] [] (fm g tp bt a b) (fm_FTS a0 g tp bt b S E) := by
  obtain ⟨⟨eD, hD3, eK, hK30, hnK⟩, h8, h9⟩ := hT.2.2.2.2.2
  refine fe_s 3 (pc' := 14) (lc' := [(1, .int (-1)), (0, .ref 0)]) (stk' := [.int 3374, .ref 1]) (mem' := fm g tp bt a b) (fun _ _ _ => rfl) ?_
  refine fe_ldI (by rfl) (by rfl) (fx_inN (i := 3374) (by omega) (by omega)) ?_
  rw [show Int32.toNatClampNeg (3374) = 3374 from rfl]
  rw [hT.2.2.2.2.1]
  refine fe_s 9 (pc' := 28) (lc' := [(3, .int (3846 + (6 * (nI n)))), (2, .int (nI n)), (1, .int (-1)), (0, .ref 0)]) (stk' := [.int 18, .int (-1)]) (mem' := fm g tp bt a b) (fun _ _ _ => rfl) ?_
  rw [show (3846 + (6 * (nI n)) : Int32) = nI (3846 + (6 * n)) from by simp only [show (3846 : Int32) = nI 3846 from rfl, show (6 : Int32) = nI 6 from rfl, nI_add, fm_mul]]
  refine fe_s 1 (pc' := cond (fx_cb .eq (-1) 18) 37 31) (lc' := [(3, .int (nI (3846 + (6 * n)))), (2, .int (nI n)), (1, .int (-1)), (0, .ref 0)]) (stk' := []) (mem' := fm g tp bt a b) (fun _ _ _ => rfl) ?_
  rw [show (fx_cb .eq (-1) 18) = false from by decide]
  dsimp only [cond]
  refine fe_s 2 (pc' := 34) (lc' := [(3, .int (nI (3846 + (6 * n)))), (2, .int (nI n)), (1, .int (-1)), (0, .ref 0)]) (stk' := [.int 19, .int (-1)]) (mem' := fm g tp bt a b) (fun _ _ _ => rfl) ?_
  refine fe_s 1 (pc' := cond (fx_cb .ne (-1) 19) 41 37) (lc' := [(3, .int (nI (3846 + (6 * n)))), (2, .int (nI n)), (1, .int (-1)), (0, .ref 0)]) (stk' := []) (mem' := fm g tp bt a b) (fun _ _ _ => rfl) ?_
  rw [show (fx_cb .ne (-1) 19) = true from by decide]
  dsimp only [cond]
  refine fe_s 4 (pc' := 47) (lc' := [(4, .int 0), (3, .int (nI (3846 + (6 * n)))), (2, .int (nI n)), (1, .int (-1)), (0, .ref 0)]) (stk' := [.int 11, .int (-1)]) (mem' := fm g tp bt a b) (fun _ _ _ => rfl) ?_
  refine fe_s 1 (pc' := cond (fx_cb .lt (-1) 11) 81 50) (lc' := [(4, .int 0), (3, .int (nI (3846 + (6 * n)))), (2, .int (nI n)), (1, .int (-1)), (0, .ref 0)]) (stk' := []) (mem' := fm g tp bt a b) (fun _ _ _ => rfl) ?_
  rw [show (fx_cb .lt (-1) 11) = true from by decide]
  dsimp only [cond]
  refine fe_s 2 (pc' := 83) (lc' := [(4, .int 0), (3, .int (nI (3846 + (6 * n)))), (2, .int (nI n)), (1, .int (-1)), (0, .ref 0)]) (stk' := [.int 2, .ref 0]) (mem' := fm g tp bt a b) (fun _ _ _ => rfl) ?_
  obtain ⟨gf1, hfrf1, hof1, hzf1⟩ := fr_failsq (x := 2) (g := g) (tp := tp) (bt := bt) (a := a) (b := b) (by omega) (by omega) (fm_gy_rf hxp hfl).2.1 (fm_gy_rf hxp hfl).2.2.1
  have gof1 := fm_gy_tr (fm_gy_rf hxp hfl) hof1
  have d22f1 : gf1 22 = nI D := by rw [hof1.1 22 (by decide) (by decide) (by decide) (by decide) (by decide) (by decide)]; first | exact eD | rfl
  have d23f1 : gf1 23 = nI K := by rw [hof1.1 23 (by decide) (by decide) (by decide) (by decide) (by decide) (by decide)]; first | exact eK | rfl
  refine fe_ivV hfrf1 (by omega) (by rfl) (by rfl) (by rfl) (by rfl) (by rfl) (by rfl) ?_
  exact fe_ret ⟨_, _, _, _, _, n, D, K, gof1, ⟨hT.1, hT.2.1, hT.2.2.1, hT.2.2.2.1, hT.2.2.2.2.1, ⟨d22f1, hD3, d23f1, hK30, hnK⟩, h8, h9⟩, Or.inl ⟨rfl, hzf1⟩, rfl⟩ (by rfl) (by rfl) (by rfl)
set_option maxRecDepth 20000 in
set_option maxHeartbeats 8000000 in
theorem ts_0 {S E F C W n D K : Nat} (hxp : fm_xp g S E F) (hfl : fm_flt g) (hH : fm_th a0 C W) (hT : fm_TS a0 g a n D K) (hR : fm_TR a n) : fe_R 10 gk_m251 7 [(1, .int 0), (0, .ref 0)] [] (fm g tp bt a b) (fm_FTS a0 g tp bt b S E) := by
  obtain ⟨⟨eD, hD3, eK, hK30, hnK⟩, h8, h9⟩ := hT.2.2.2.2.2
  refine fe_s 3 (pc' := 14) (lc' := [(1, .int 0), (0, .ref 0)]) (stk' := [.int 3374, .ref 1]) (mem' := fm g tp bt a b) (fun _ _ _ => rfl) ?_
  refine fe_ldI (by rfl) (by rfl) (fx_inN (i := 3374) (by omega) (by omega)) ?_
  rw [show Int32.toNatClampNeg (3374) = 3374 from rfl]
  rw [hT.2.2.2.2.1]
  refine fe_s 9 (pc' := 28) (lc' := [(3, .int (3846 + (6 * (nI n)))), (2, .int (nI n)), (1, .int 0), (0, .ref 0)]) (stk' := [.int 18, .int 0]) (mem' := fm g tp bt a b) (fun _ _ _ => rfl) ?_
  rw [show (3846 + (6 * (nI n)) : Int32) = nI (3846 + (6 * n)) from by simp only [show (3846 : Int32) = nI 3846 from rfl, show (6 : Int32) = nI 6 from rfl, nI_add, fm_mul]]
  refine fe_s 1 (pc' := cond (fx_cb .eq 0 18) 37 31) (lc' := [(3, .int (nI (3846 + (6 * n)))), (2, .int (nI n)), (1, .int 0), (0, .ref 0)]) (stk' := []) (mem' := fm g tp bt a b) (fun _ _ _ => rfl) ?_
  rw [show (fx_cb .eq 0 18) = false from by decide]
  dsimp only [cond]
  refine fe_s 2 (pc' := 34) (lc' := [(3, .int (nI (3846 + (6 * n)))), (2, .int (nI n)), (1, .int 0), (0, .ref 0)]) (stk' := [.int 19, .int 0]) (mem' := fm g tp bt a b) (fun _ _ _ => rfl) ?_
  refine fe_s 1 (pc' := cond (fx_cb .ne 0 19) 41 37) (lc' := [(3, .int (nI (3846 + (6 * n)))), (2, .int (nI n)), (1, .int 0), (0, .ref 0)]) (stk' := []) (mem' := fm g tp bt a b) (fun _ _ _ => rfl) ?_
  rw [show (fx_cb .ne 0 19) = true from by decide]
  dsimp only [cond]
  refine fe_s 4 (pc' := 47) (lc' := [(4, .int 0), (3, .int (nI (3846 + (6 * n)))), (2, .int (nI n)), (1, .int 0), (0, .ref 0)]) (stk' := [.int 11, .int 0]) (mem' := fm g tp bt a b) (fun _ _ _ => rfl) ?_
  refine fe_s 1 (pc' := cond (fx_cb .lt 0 11) 81 50) (lc' := [(4, .int 0), (3, .int (nI (3846 + (6 * n)))), (2, .int (nI n)), (1, .int 0), (0, .ref 0)]) (stk' := []) (mem' := fm g tp bt a b) (fun _ _ _ => rfl) ?_
  rw [show (fx_cb .lt 0 11) = true from by decide]
  dsimp only [cond]
  refine fe_s 2 (pc' := 83) (lc' := [(4, .int 0), (3, .int (nI (3846 + (6 * n)))), (2, .int (nI n)), (1, .int 0), (0, .ref 0)]) (stk' := [.int 2, .ref 0]) (mem' := fm g tp bt a b) (fun _ _ _ => rfl) ?_
  obtain ⟨gf1, hfrf1, hof1, hzf1⟩ := fr_failsq (x := 2) (g := g) (tp := tp) (bt := bt) (a := a) (b := b) (by omega) (by omega) (fm_gy_rf hxp hfl).2.1 (fm_gy_rf hxp hfl).2.2.1
  have gof1 := fm_gy_tr (fm_gy_rf hxp hfl) hof1
  have d22f1 : gf1 22 = nI D := by rw [hof1.1 22 (by decide) (by decide) (by decide) (by decide) (by decide) (by decide)]; first | exact eD | rfl
  have d23f1 : gf1 23 = nI K := by rw [hof1.1 23 (by decide) (by decide) (by decide) (by decide) (by decide) (by decide)]; first | exact eK | rfl
  refine fe_ivV hfrf1 (by omega) (by rfl) (by rfl) (by rfl) (by rfl) (by rfl) (by rfl) ?_
  exact fe_ret ⟨_, _, _, _, _, n, D, K, gof1, ⟨hT.1, hT.2.1, hT.2.2.1, hT.2.2.2.1, hT.2.2.2.2.1, ⟨d22f1, hD3, d23f1, hK30, hnK⟩, h8, h9⟩, Or.inl ⟨rfl, hzf1⟩, rfl⟩ (by rfl) (by rfl) (by rfl)
set_option maxRecDepth 20000 in
set_option maxHeartbeats 8000000 in
theorem ts_1 {S E F C W n D K : Nat} (hxp : fm_xp g S E F) (hfl : fm_flt g) (hH : fm_th a0 C W) (hT : fm_TS a0 g a n D K) (hR : fm_TR a n) : fe_R 10 gk_m251 7 [(1, .int 1), (0, .ref 0)] [] (fm g tp bt a b) (fm_FTS a0 g tp bt b S E) := by
  obtain ⟨⟨eD, hD3, eK, hK30, hnK⟩, h8, h9⟩ := hT.2.2.2.2.2
  refine fe_s 3 (pc' := 14) (lc' := [(1, .int 1), (0, .ref 0)]) (stk' := [.int 3374, .ref 1]) (mem' := fm g tp bt a b) (fun _ _ _ => rfl) ?_
  refine fe_ldI (by rfl) (by rfl) (fx_inN (i := 3374) (by omega) (by omega)) ?_
  rw [show Int32.toNatClampNeg (3374) = 3374 from rfl]
  rw [hT.2.2.2.2.1]
  refine fe_s 9 (pc' := 28) (lc' := [(3, .int (3846 + (6 * (nI n)))), (2, .int (nI n)), (1, .int 1), (0, .ref 0)]) (stk' := [.int 18, .int 1]) (mem' := fm g tp bt a b) (fun _ _ _ => rfl) ?_
  rw [show (3846 + (6 * (nI n)) : Int32) = nI (3846 + (6 * n)) from by simp only [show (3846 : Int32) = nI 3846 from rfl, show (6 : Int32) = nI 6 from rfl, nI_add, fm_mul]]
  refine fe_s 1 (pc' := cond (fx_cb .eq 1 18) 37 31) (lc' := [(3, .int (nI (3846 + (6 * n)))), (2, .int (nI n)), (1, .int 1), (0, .ref 0)]) (stk' := []) (mem' := fm g tp bt a b) (fun _ _ _ => rfl) ?_
  rw [show (fx_cb .eq 1 18) = false from by decide]
  dsimp only [cond]
  refine fe_s 2 (pc' := 34) (lc' := [(3, .int (nI (3846 + (6 * n)))), (2, .int (nI n)), (1, .int 1), (0, .ref 0)]) (stk' := [.int 19, .int 1]) (mem' := fm g tp bt a b) (fun _ _ _ => rfl) ?_
  refine fe_s 1 (pc' := cond (fx_cb .ne 1 19) 41 37) (lc' := [(3, .int (nI (3846 + (6 * n)))), (2, .int (nI n)), (1, .int 1), (0, .ref 0)]) (stk' := []) (mem' := fm g tp bt a b) (fun _ _ _ => rfl) ?_
  rw [show (fx_cb .ne 1 19) = true from by decide]
  dsimp only [cond]
  refine fe_s 4 (pc' := 47) (lc' := [(4, .int 0), (3, .int (nI (3846 + (6 * n)))), (2, .int (nI n)), (1, .int 1), (0, .ref 0)]) (stk' := [.int 11, .int 1]) (mem' := fm g tp bt a b) (fun _ _ _ => rfl) ?_
  refine fe_s 1 (pc' := cond (fx_cb .lt 1 11) 81 50) (lc' := [(4, .int 0), (3, .int (nI (3846 + (6 * n)))), (2, .int (nI n)), (1, .int 1), (0, .ref 0)]) (stk' := []) (mem' := fm g tp bt a b) (fun _ _ _ => rfl) ?_
  rw [show (fx_cb .lt 1 11) = true from by decide]
  dsimp only [cond]
  refine fe_s 2 (pc' := 83) (lc' := [(4, .int 0), (3, .int (nI (3846 + (6 * n)))), (2, .int (nI n)), (1, .int 1), (0, .ref 0)]) (stk' := [.int 2, .ref 0]) (mem' := fm g tp bt a b) (fun _ _ _ => rfl) ?_
  obtain ⟨gf1, hfrf1, hof1, hzf1⟩ := fr_failsq (x := 2) (g := g) (tp := tp) (bt := bt) (a := a) (b := b) (by omega) (by omega) (fm_gy_rf hxp hfl).2.1 (fm_gy_rf hxp hfl).2.2.1
  have gof1 := fm_gy_tr (fm_gy_rf hxp hfl) hof1
  have d22f1 : gf1 22 = nI D := by rw [hof1.1 22 (by decide) (by decide) (by decide) (by decide) (by decide) (by decide)]; first | exact eD | rfl
  have d23f1 : gf1 23 = nI K := by rw [hof1.1 23 (by decide) (by decide) (by decide) (by decide) (by decide) (by decide)]; first | exact eK | rfl
  refine fe_ivV hfrf1 (by omega) (by rfl) (by rfl) (by rfl) (by rfl) (by rfl) (by rfl) ?_
  exact fe_ret ⟨_, _, _, _, _, n, D, K, gof1, ⟨hT.1, hT.2.1, hT.2.2.1, hT.2.2.2.1, hT.2.2.2.2.1, ⟨d22f1, hD3, d23f1, hK30, hnK⟩, h8, h9⟩, Or.inl ⟨rfl, hzf1⟩, rfl⟩ (by rfl) (by rfl) (by rfl)
set_option maxRecDepth 20000 in
set_option maxHeartbeats 8000000 in
theorem ts_2 {S E F C W n D K : Nat} (hxp : fm_xp g S E F) (hfl : fm_flt g) (hH : fm_th a0 C W) (hT : fm_TS a0 g a n D K) (hR : fm_TR a n) : fe_R 10 gk_m251 7 [(1, .int 2), (0, .ref 0)] [] (fm g tp bt a b) (fm_FTS a0 g tp bt b S E) := by
  obtain ⟨⟨eD, hD3, eK, hK30, hnK⟩, h8, h9⟩ := hT.2.2.2.2.2
  refine fe_s 3 (pc' := 14) (lc' := [(1, .int 2), (0, .ref 0)]) (stk' := [.int 3374, .ref 1]) (mem' := fm g tp bt a b) (fun _ _ _ => rfl) ?_
  refine fe_ldI (by rfl) (by rfl) (fx_inN (i := 3374) (by omega) (by omega)) ?_
  rw [show Int32.toNatClampNeg (3374) = 3374 from rfl]
  rw [hT.2.2.2.2.1]
  refine fe_s 9 (pc' := 28) (lc' := [(3, .int (3846 + (6 * (nI n)))), (2, .int (nI n)), (1, .int 2), (0, .ref 0)]) (stk' := [.int 18, .int 2]) (mem' := fm g tp bt a b) (fun _ _ _ => rfl) ?_
  rw [show (3846 + (6 * (nI n)) : Int32) = nI (3846 + (6 * n)) from by simp only [show (3846 : Int32) = nI 3846 from rfl, show (6 : Int32) = nI 6 from rfl, nI_add, fm_mul]]
  refine fe_s 1 (pc' := cond (fx_cb .eq 2 18) 37 31) (lc' := [(3, .int (nI (3846 + (6 * n)))), (2, .int (nI n)), (1, .int 2), (0, .ref 0)]) (stk' := []) (mem' := fm g tp bt a b) (fun _ _ _ => rfl) ?_
  rw [show (fx_cb .eq 2 18) = false from by decide]
  dsimp only [cond]
  refine fe_s 2 (pc' := 34) (lc' := [(3, .int (nI (3846 + (6 * n)))), (2, .int (nI n)), (1, .int 2), (0, .ref 0)]) (stk' := [.int 19, .int 2]) (mem' := fm g tp bt a b) (fun _ _ _ => rfl) ?_
  refine fe_s 1 (pc' := cond (fx_cb .ne 2 19) 41 37) (lc' := [(3, .int (nI (3846 + (6 * n)))), (2, .int (nI n)), (1, .int 2), (0, .ref 0)]) (stk' := []) (mem' := fm g tp bt a b) (fun _ _ _ => rfl) ?_
  rw [show (fx_cb .ne 2 19) = true from by decide]
  dsimp only [cond]
  refine fe_s 4 (pc' := 47) (lc' := [(4, .int 0), (3, .int (nI (3846 + (6 * n)))), (2, .int (nI n)), (1, .int 2), (0, .ref 0)]) (stk' := [.int 11, .int 2]) (mem' := fm g tp bt a b) (fun _ _ _ => rfl) ?_
  refine fe_s 1 (pc' := cond (fx_cb .lt 2 11) 81 50) (lc' := [(4, .int 0), (3, .int (nI (3846 + (6 * n)))), (2, .int (nI n)), (1, .int 2), (0, .ref 0)]) (stk' := []) (mem' := fm g tp bt a b) (fun _ _ _ => rfl) ?_
  rw [show (fx_cb .lt 2 11) = true from by decide]
  dsimp only [cond]
  refine fe_s 2 (pc' := 83) (lc' := [(4, .int 0), (3, .int (nI (3846 + (6 * n)))), (2, .int (nI n)), (1, .int 2), (0, .ref 0)]) (stk' := [.int 2, .ref 0]) (mem' := fm g tp bt a b) (fun _ _ _ => rfl) ?_
  obtain ⟨gf1, hfrf1, hof1, hzf1⟩ := fr_failsq (x := 2) (g := g) (tp := tp) (bt := bt) (a := a) (b := b) (by omega) (by omega) (fm_gy_rf hxp hfl).2.1 (fm_gy_rf hxp hfl).2.2.1
  have gof1 := fm_gy_tr (fm_gy_rf hxp hfl) hof1
  have d22f1 : gf1 22 = nI D := by rw [hof1.1 22 (by decide) (by decide) (by decide) (by decide) (by decide) (by decide)]; first | exact eD | rfl
  have d23f1 : gf1 23 = nI K := by rw [hof1.1 23 (by decide) (by decide) (by decide) (by decide) (by decide) (by decide)]; first | exact eK | rfl
  refine fe_ivV hfrf1 (by omega) (by rfl) (by rfl) (by rfl) (by rfl) (by rfl) (by rfl) ?_
  exact fe_ret ⟨_, _, _, _, _, n, D, K, gof1, ⟨hT.1, hT.2.1, hT.2.2.1, hT.2.2.2.1, hT.2.2.2.2.1, ⟨d22f1, hD3, d23f1, hK30, hnK⟩, h8, h9⟩, Or.inl ⟨rfl, hzf1⟩, rfl⟩ (by rfl) (by rfl) (by rfl)
set_option maxRecDepth 20000 in
set_option maxHeartbeats 8000000 in
theorem ts_3 {S E F C W n D K : Nat} (hxp : fm_xp g S E F) (hfl : fm_flt g) (hH : fm_th a0 C W) (hT : fm_TS a0 g a n D K) (hR : fm_TR a n) : fe_R 10 gk_m251 7 [(1, .int 3), (0, .ref 0)] [] (fm g tp bt a b) (fm_FTS a0 g tp bt b S E) := by
  obtain ⟨⟨eD, hD3, eK, hK30, hnK⟩, h8, h9⟩ := hT.2.2.2.2.2
  refine fe_s 3 (pc' := 14) (lc' := [(1, .int 3), (0, .ref 0)]) (stk' := [.int 3374, .ref 1]) (mem' := fm g tp bt a b) (fun _ _ _ => rfl) ?_
  refine fe_ldI (by rfl) (by rfl) (fx_inN (i := 3374) (by omega) (by omega)) ?_
  rw [show Int32.toNatClampNeg (3374) = 3374 from rfl]
  rw [hT.2.2.2.2.1]
  refine fe_s 9 (pc' := 28) (lc' := [(3, .int (3846 + (6 * (nI n)))), (2, .int (nI n)), (1, .int 3), (0, .ref 0)]) (stk' := [.int 18, .int 3]) (mem' := fm g tp bt a b) (fun _ _ _ => rfl) ?_
  rw [show (3846 + (6 * (nI n)) : Int32) = nI (3846 + (6 * n)) from by simp only [show (3846 : Int32) = nI 3846 from rfl, show (6 : Int32) = nI 6 from rfl, nI_add, fm_mul]]
  refine fe_s 1 (pc' := cond (fx_cb .eq 3 18) 37 31) (lc' := [(3, .int (nI (3846 + (6 * n)))), (2, .int (nI n)), (1, .int 3), (0, .ref 0)]) (stk' := []) (mem' := fm g tp bt a b) (fun _ _ _ => rfl) ?_
  rw [show (fx_cb .eq 3 18) = false from by decide]
  dsimp only [cond]
  refine fe_s 2 (pc' := 34) (lc' := [(3, .int (nI (3846 + (6 * n)))), (2, .int (nI n)), (1, .int 3), (0, .ref 0)]) (stk' := [.int 19, .int 3]) (mem' := fm g tp bt a b) (fun _ _ _ => rfl) ?_
  refine fe_s 1 (pc' := cond (fx_cb .ne 3 19) 41 37) (lc' := [(3, .int (nI (3846 + (6 * n)))), (2, .int (nI n)), (1, .int 3), (0, .ref 0)]) (stk' := []) (mem' := fm g tp bt a b) (fun _ _ _ => rfl) ?_
  rw [show (fx_cb .ne 3 19) = true from by decide]
  dsimp only [cond]
  refine fe_s 4 (pc' := 47) (lc' := [(4, .int 0), (3, .int (nI (3846 + (6 * n)))), (2, .int (nI n)), (1, .int 3), (0, .ref 0)]) (stk' := [.int 11, .int 3]) (mem' := fm g tp bt a b) (fun _ _ _ => rfl) ?_
  refine fe_s 1 (pc' := cond (fx_cb .lt 3 11) 81 50) (lc' := [(4, .int 0), (3, .int (nI (3846 + (6 * n)))), (2, .int (nI n)), (1, .int 3), (0, .ref 0)]) (stk' := []) (mem' := fm g tp bt a b) (fun _ _ _ => rfl) ?_
  rw [show (fx_cb .lt 3 11) = true from by decide]
  dsimp only [cond]
  refine fe_s 2 (pc' := 83) (lc' := [(4, .int 0), (3, .int (nI (3846 + (6 * n)))), (2, .int (nI n)), (1, .int 3), (0, .ref 0)]) (stk' := [.int 2, .ref 0]) (mem' := fm g tp bt a b) (fun _ _ _ => rfl) ?_
  obtain ⟨gf1, hfrf1, hof1, hzf1⟩ := fr_failsq (x := 2) (g := g) (tp := tp) (bt := bt) (a := a) (b := b) (by omega) (by omega) (fm_gy_rf hxp hfl).2.1 (fm_gy_rf hxp hfl).2.2.1
  have gof1 := fm_gy_tr (fm_gy_rf hxp hfl) hof1
  have d22f1 : gf1 22 = nI D := by rw [hof1.1 22 (by decide) (by decide) (by decide) (by decide) (by decide) (by decide)]; first | exact eD | rfl
  have d23f1 : gf1 23 = nI K := by rw [hof1.1 23 (by decide) (by decide) (by decide) (by decide) (by decide) (by decide)]; first | exact eK | rfl
  refine fe_ivV hfrf1 (by omega) (by rfl) (by rfl) (by rfl) (by rfl) (by rfl) (by rfl) ?_
  exact fe_ret ⟨_, _, _, _, _, n, D, K, gof1, ⟨hT.1, hT.2.1, hT.2.2.1, hT.2.2.2.1, hT.2.2.2.2.1, ⟨d22f1, hD3, d23f1, hK30, hnK⟩, h8, h9⟩, Or.inl ⟨rfl, hzf1⟩, rfl⟩ (by rfl) (by rfl) (by rfl)
set_option maxRecDepth 20000 in
set_option maxHeartbeats 8000000 in
theorem ts_4 {S E F C W n D K : Nat} (hxp : fm_xp g S E F) (hfl : fm_flt g) (hH : fm_th a0 C W) (hT : fm_TS a0 g a n D K) (hR : fm_TR a n) : fe_R 10 gk_m251 7 [(1, .int 4), (0, .ref 0)] [] (fm g tp bt a b) (fm_FTS a0 g tp bt b S E) := by
  obtain ⟨⟨eD, hD3, eK, hK30, hnK⟩, h8, h9⟩ := hT.2.2.2.2.2
  refine fe_s 3 (pc' := 14) (lc' := [(1, .int 4), (0, .ref 0)]) (stk' := [.int 3374, .ref 1]) (mem' := fm g tp bt a b) (fun _ _ _ => rfl) ?_
  refine fe_ldI (by rfl) (by rfl) (fx_inN (i := 3374) (by omega) (by omega)) ?_
  rw [show Int32.toNatClampNeg (3374) = 3374 from rfl]
  rw [hT.2.2.2.2.1]
  refine fe_s 9 (pc' := 28) (lc' := [(3, .int (3846 + (6 * (nI n)))), (2, .int (nI n)), (1, .int 4), (0, .ref 0)]) (stk' := [.int 18, .int 4]) (mem' := fm g tp bt a b) (fun _ _ _ => rfl) ?_
  rw [show (3846 + (6 * (nI n)) : Int32) = nI (3846 + (6 * n)) from by simp only [show (3846 : Int32) = nI 3846 from rfl, show (6 : Int32) = nI 6 from rfl, nI_add, fm_mul]]
  refine fe_s 1 (pc' := cond (fx_cb .eq 4 18) 37 31) (lc' := [(3, .int (nI (3846 + (6 * n)))), (2, .int (nI n)), (1, .int 4), (0, .ref 0)]) (stk' := []) (mem' := fm g tp bt a b) (fun _ _ _ => rfl) ?_
  rw [show (fx_cb .eq 4 18) = false from by decide]
  dsimp only [cond]
  refine fe_s 2 (pc' := 34) (lc' := [(3, .int (nI (3846 + (6 * n)))), (2, .int (nI n)), (1, .int 4), (0, .ref 0)]) (stk' := [.int 19, .int 4]) (mem' := fm g tp bt a b) (fun _ _ _ => rfl) ?_
  refine fe_s 1 (pc' := cond (fx_cb .ne 4 19) 41 37) (lc' := [(3, .int (nI (3846 + (6 * n)))), (2, .int (nI n)), (1, .int 4), (0, .ref 0)]) (stk' := []) (mem' := fm g tp bt a b) (fun _ _ _ => rfl) ?_
  rw [show (fx_cb .ne 4 19) = true from by decide]
  dsimp only [cond]
  refine fe_s 4 (pc' := 47) (lc' := [(4, .int 0), (3, .int (nI (3846 + (6 * n)))), (2, .int (nI n)), (1, .int 4), (0, .ref 0)]) (stk' := [.int 11, .int 4]) (mem' := fm g tp bt a b) (fun _ _ _ => rfl) ?_
  refine fe_s 1 (pc' := cond (fx_cb .lt 4 11) 81 50) (lc' := [(4, .int 0), (3, .int (nI (3846 + (6 * n)))), (2, .int (nI n)), (1, .int 4), (0, .ref 0)]) (stk' := []) (mem' := fm g tp bt a b) (fun _ _ _ => rfl) ?_
  rw [show (fx_cb .lt 4 11) = true from by decide]
  dsimp only [cond]
  refine fe_s 2 (pc' := 83) (lc' := [(4, .int 0), (3, .int (nI (3846 + (6 * n)))), (2, .int (nI n)), (1, .int 4), (0, .ref 0)]) (stk' := [.int 2, .ref 0]) (mem' := fm g tp bt a b) (fun _ _ _ => rfl) ?_
  obtain ⟨gf1, hfrf1, hof1, hzf1⟩ := fr_failsq (x := 2) (g := g) (tp := tp) (bt := bt) (a := a) (b := b) (by omega) (by omega) (fm_gy_rf hxp hfl).2.1 (fm_gy_rf hxp hfl).2.2.1
  have gof1 := fm_gy_tr (fm_gy_rf hxp hfl) hof1
  have d22f1 : gf1 22 = nI D := by rw [hof1.1 22 (by decide) (by decide) (by decide) (by decide) (by decide) (by decide)]; first | exact eD | rfl
  have d23f1 : gf1 23 = nI K := by rw [hof1.1 23 (by decide) (by decide) (by decide) (by decide) (by decide) (by decide)]; first | exact eK | rfl
  refine fe_ivV hfrf1 (by omega) (by rfl) (by rfl) (by rfl) (by rfl) (by rfl) (by rfl) ?_
  exact fe_ret ⟨_, _, _, _, _, n, D, K, gof1, ⟨hT.1, hT.2.1, hT.2.2.1, hT.2.2.2.1, hT.2.2.2.2.1, ⟨d22f1, hD3, d23f1, hK30, hnK⟩, h8, h9⟩, Or.inl ⟨rfl, hzf1⟩, rfl⟩ (by rfl) (by rfl) (by rfl)
set_option maxRecDepth 20000 in
set_option maxHeartbeats 8000000 in
theorem ts_5 {S E F C W n D K : Nat} (hxp : fm_xp g S E F) (hfl : fm_flt g) (hH : fm_th a0 C W) (hT : fm_TS a0 g a n D K) (hR : fm_TR a n) : fe_R 10 gk_m251 7 [(1, .int 5), (0, .ref 0)] [] (fm g tp bt a b) (fm_FTS a0 g tp bt b S E) := by
  obtain ⟨⟨eD, hD3, eK, hK30, hnK⟩, h8, h9⟩ := hT.2.2.2.2.2
  refine fe_s 3 (pc' := 14) (lc' := [(1, .int 5), (0, .ref 0)]) (stk' := [.int 3374, .ref 1]) (mem' := fm g tp bt a b) (fun _ _ _ => rfl) ?_
  refine fe_ldI (by rfl) (by rfl) (fx_inN (i := 3374) (by omega) (by omega)) ?_
  rw [show Int32.toNatClampNeg (3374) = 3374 from rfl]
  rw [hT.2.2.2.2.1]
  refine fe_s 9 (pc' := 28) (lc' := [(3, .int (3846 + (6 * (nI n)))), (2, .int (nI n)), (1, .int 5), (0, .ref 0)]) (stk' := [.int 18, .int 5]) (mem' := fm g tp bt a b) (fun _ _ _ => rfl) ?_
  rw [show (3846 + (6 * (nI n)) : Int32) = nI (3846 + (6 * n)) from by simp only [show (3846 : Int32) = nI 3846 from rfl, show (6 : Int32) = nI 6 from rfl, nI_add, fm_mul]]
  refine fe_s 1 (pc' := cond (fx_cb .eq 5 18) 37 31) (lc' := [(3, .int (nI (3846 + (6 * n)))), (2, .int (nI n)), (1, .int 5), (0, .ref 0)]) (stk' := []) (mem' := fm g tp bt a b) (fun _ _ _ => rfl) ?_
  rw [show (fx_cb .eq 5 18) = false from by decide]
  dsimp only [cond]
  refine fe_s 2 (pc' := 34) (lc' := [(3, .int (nI (3846 + (6 * n)))), (2, .int (nI n)), (1, .int 5), (0, .ref 0)]) (stk' := [.int 19, .int 5]) (mem' := fm g tp bt a b) (fun _ _ _ => rfl) ?_
  refine fe_s 1 (pc' := cond (fx_cb .ne 5 19) 41 37) (lc' := [(3, .int (nI (3846 + (6 * n)))), (2, .int (nI n)), (1, .int 5), (0, .ref 0)]) (stk' := []) (mem' := fm g tp bt a b) (fun _ _ _ => rfl) ?_
  rw [show (fx_cb .ne 5 19) = true from by decide]
  dsimp only [cond]
  refine fe_s 4 (pc' := 47) (lc' := [(4, .int 0), (3, .int (nI (3846 + (6 * n)))), (2, .int (nI n)), (1, .int 5), (0, .ref 0)]) (stk' := [.int 11, .int 5]) (mem' := fm g tp bt a b) (fun _ _ _ => rfl) ?_
  refine fe_s 1 (pc' := cond (fx_cb .lt 5 11) 81 50) (lc' := [(4, .int 0), (3, .int (nI (3846 + (6 * n)))), (2, .int (nI n)), (1, .int 5), (0, .ref 0)]) (stk' := []) (mem' := fm g tp bt a b) (fun _ _ _ => rfl) ?_
  rw [show (fx_cb .lt 5 11) = true from by decide]
  dsimp only [cond]
  refine fe_s 2 (pc' := 83) (lc' := [(4, .int 0), (3, .int (nI (3846 + (6 * n)))), (2, .int (nI n)), (1, .int 5), (0, .ref 0)]) (stk' := [.int 2, .ref 0]) (mem' := fm g tp bt a b) (fun _ _ _ => rfl) ?_
  obtain ⟨gf1, hfrf1, hof1, hzf1⟩ := fr_failsq (x := 2) (g := g) (tp := tp) (bt := bt) (a := a) (b := b) (by omega) (by omega) (fm_gy_rf hxp hfl).2.1 (fm_gy_rf hxp hfl).2.2.1
  have gof1 := fm_gy_tr (fm_gy_rf hxp hfl) hof1
  have d22f1 : gf1 22 = nI D := by rw [hof1.1 22 (by decide) (by decide) (by decide) (by decide) (by decide) (by decide)]; first | exact eD | rfl
  have d23f1 : gf1 23 = nI K := by rw [hof1.1 23 (by decide) (by decide) (by decide) (by decide) (by decide) (by decide)]; first | exact eK | rfl
  refine fe_ivV hfrf1 (by omega) (by rfl) (by rfl) (by rfl) (by rfl) (by rfl) (by rfl) ?_
  exact fe_ret ⟨_, _, _, _, _, n, D, K, gof1, ⟨hT.1, hT.2.1, hT.2.2.1, hT.2.2.2.1, hT.2.2.2.2.1, ⟨d22f1, hD3, d23f1, hK30, hnK⟩, h8, h9⟩, Or.inl ⟨rfl, hzf1⟩, rfl⟩ (by rfl) (by rfl) (by rfl)
set_option maxRecDepth 20000 in
set_option maxHeartbeats 8000000 in
theorem ts_6 {S E F C W n D K : Nat} (hxp : fm_xp g S E F) (hfl : fm_flt g) (hH : fm_th a0 C W) (hT : fm_TS a0 g a n D K) (hR : fm_TR a n) : fe_R 10 gk_m251 7 [(1, .int 6), (0, .ref 0)] [] (fm g tp bt a b) (fm_FTS a0 g tp bt b S E) := by
  obtain ⟨⟨eD, hD3, eK, hK30, hnK⟩, h8, h9⟩ := hT.2.2.2.2.2
  refine fe_s 3 (pc' := 14) (lc' := [(1, .int 6), (0, .ref 0)]) (stk' := [.int 3374, .ref 1]) (mem' := fm g tp bt a b) (fun _ _ _ => rfl) ?_
  refine fe_ldI (by rfl) (by rfl) (fx_inN (i := 3374) (by omega) (by omega)) ?_
  rw [show Int32.toNatClampNeg (3374) = 3374 from rfl]
  rw [hT.2.2.2.2.1]
  refine fe_s 9 (pc' := 28) (lc' := [(3, .int (3846 + (6 * (nI n)))), (2, .int (nI n)), (1, .int 6), (0, .ref 0)]) (stk' := [.int 18, .int 6]) (mem' := fm g tp bt a b) (fun _ _ _ => rfl) ?_
  rw [show (3846 + (6 * (nI n)) : Int32) = nI (3846 + (6 * n)) from by simp only [show (3846 : Int32) = nI 3846 from rfl, show (6 : Int32) = nI 6 from rfl, nI_add, fm_mul]]
  refine fe_s 1 (pc' := cond (fx_cb .eq 6 18) 37 31) (lc' := [(3, .int (nI (3846 + (6 * n)))), (2, .int (nI n)), (1, .int 6), (0, .ref 0)]) (stk' := []) (mem' := fm g tp bt a b) (fun _ _ _ => rfl) ?_
  rw [show (fx_cb .eq 6 18) = false from by decide]
  dsimp only [cond]
  refine fe_s 2 (pc' := 34) (lc' := [(3, .int (nI (3846 + (6 * n)))), (2, .int (nI n)), (1, .int 6), (0, .ref 0)]) (stk' := [.int 19, .int 6]) (mem' := fm g tp bt a b) (fun _ _ _ => rfl) ?_
  refine fe_s 1 (pc' := cond (fx_cb .ne 6 19) 41 37) (lc' := [(3, .int (nI (3846 + (6 * n)))), (2, .int (nI n)), (1, .int 6), (0, .ref 0)]) (stk' := []) (mem' := fm g tp bt a b) (fun _ _ _ => rfl) ?_
  rw [show (fx_cb .ne 6 19) = true from by decide]
  dsimp only [cond]
  refine fe_s 4 (pc' := 47) (lc' := [(4, .int 0), (3, .int (nI (3846 + (6 * n)))), (2, .int (nI n)), (1, .int 6), (0, .ref 0)]) (stk' := [.int 11, .int 6]) (mem' := fm g tp bt a b) (fun _ _ _ => rfl) ?_
  refine fe_s 1 (pc' := cond (fx_cb .lt 6 11) 81 50) (lc' := [(4, .int 0), (3, .int (nI (3846 + (6 * n)))), (2, .int (nI n)), (1, .int 6), (0, .ref 0)]) (stk' := []) (mem' := fm g tp bt a b) (fun _ _ _ => rfl) ?_
  rw [show (fx_cb .lt 6 11) = true from by decide]
  dsimp only [cond]
  refine fe_s 2 (pc' := 83) (lc' := [(4, .int 0), (3, .int (nI (3846 + (6 * n)))), (2, .int (nI n)), (1, .int 6), (0, .ref 0)]) (stk' := [.int 2, .ref 0]) (mem' := fm g tp bt a b) (fun _ _ _ => rfl) ?_
  obtain ⟨gf1, hfrf1, hof1, hzf1⟩ := fr_failsq (x := 2) (g := g) (tp := tp) (bt := bt) (a := a) (b := b) (by omega) (by omega) (fm_gy_rf hxp hfl).2.1 (fm_gy_rf hxp hfl).2.2.1
  have gof1 := fm_gy_tr (fm_gy_rf hxp hfl) hof1
  have d22f1 : gf1 22 = nI D := by rw [hof1.1 22 (by decide) (by decide) (by decide) (by decide) (by decide) (by decide)]; first | exact eD | rfl
  have d23f1 : gf1 23 = nI K := by rw [hof1.1 23 (by decide) (by decide) (by decide) (by decide) (by decide) (by decide)]; first | exact eK | rfl
  refine fe_ivV hfrf1 (by omega) (by rfl) (by rfl) (by rfl) (by rfl) (by rfl) (by rfl) ?_
  exact fe_ret ⟨_, _, _, _, _, n, D, K, gof1, ⟨hT.1, hT.2.1, hT.2.2.1, hT.2.2.2.1, hT.2.2.2.2.1, ⟨d22f1, hD3, d23f1, hK30, hnK⟩, h8, h9⟩, Or.inl ⟨rfl, hzf1⟩, rfl⟩ (by rfl) (by rfl) (by rfl)
set_option maxRecDepth 20000 in
set_option maxHeartbeats 8000000 in
theorem ts_7 {S E F C W n D K : Nat} (hxp : fm_xp g S E F) (hfl : fm_flt g) (hH : fm_th a0 C W) (hT : fm_TS a0 g a n D K) (hR : fm_TR a n) : fe_R 10 gk_m251 7 [(1, .int 7), (0, .ref 0)] [] (fm g tp bt a b) (fm_FTS a0 g tp bt b S E) := by
  obtain ⟨⟨eD, hD3, eK, hK30, hnK⟩, h8, h9⟩ := hT.2.2.2.2.2
  refine fe_s 3 (pc' := 14) (lc' := [(1, .int 7), (0, .ref 0)]) (stk' := [.int 3374, .ref 1]) (mem' := fm g tp bt a b) (fun _ _ _ => rfl) ?_
  refine fe_ldI (by rfl) (by rfl) (fx_inN (i := 3374) (by omega) (by omega)) ?_
  rw [show Int32.toNatClampNeg (3374) = 3374 from rfl]
  rw [hT.2.2.2.2.1]
  refine fe_s 9 (pc' := 28) (lc' := [(3, .int (3846 + (6 * (nI n)))), (2, .int (nI n)), (1, .int 7), (0, .ref 0)]) (stk' := [.int 18, .int 7]) (mem' := fm g tp bt a b) (fun _ _ _ => rfl) ?_
  rw [show (3846 + (6 * (nI n)) : Int32) = nI (3846 + (6 * n)) from by simp only [show (3846 : Int32) = nI 3846 from rfl, show (6 : Int32) = nI 6 from rfl, nI_add, fm_mul]]
  refine fe_s 1 (pc' := cond (fx_cb .eq 7 18) 37 31) (lc' := [(3, .int (nI (3846 + (6 * n)))), (2, .int (nI n)), (1, .int 7), (0, .ref 0)]) (stk' := []) (mem' := fm g tp bt a b) (fun _ _ _ => rfl) ?_
  rw [show (fx_cb .eq 7 18) = false from by decide]
  dsimp only [cond]
  refine fe_s 2 (pc' := 34) (lc' := [(3, .int (nI (3846 + (6 * n)))), (2, .int (nI n)), (1, .int 7), (0, .ref 0)]) (stk' := [.int 19, .int 7]) (mem' := fm g tp bt a b) (fun _ _ _ => rfl) ?_
  refine fe_s 1 (pc' := cond (fx_cb .ne 7 19) 41 37) (lc' := [(3, .int (nI (3846 + (6 * n)))), (2, .int (nI n)), (1, .int 7), (0, .ref 0)]) (stk' := []) (mem' := fm g tp bt a b) (fun _ _ _ => rfl) ?_
  rw [show (fx_cb .ne 7 19) = true from by decide]
  dsimp only [cond]
  refine fe_s 4 (pc' := 47) (lc' := [(4, .int 0), (3, .int (nI (3846 + (6 * n)))), (2, .int (nI n)), (1, .int 7), (0, .ref 0)]) (stk' := [.int 11, .int 7]) (mem' := fm g tp bt a b) (fun _ _ _ => rfl) ?_
  refine fe_s 1 (pc' := cond (fx_cb .lt 7 11) 81 50) (lc' := [(4, .int 0), (3, .int (nI (3846 + (6 * n)))), (2, .int (nI n)), (1, .int 7), (0, .ref 0)]) (stk' := []) (mem' := fm g tp bt a b) (fun _ _ _ => rfl) ?_
  rw [show (fx_cb .lt 7 11) = true from by decide]
  dsimp only [cond]
  refine fe_s 2 (pc' := 83) (lc' := [(4, .int 0), (3, .int (nI (3846 + (6 * n)))), (2, .int (nI n)), (1, .int 7), (0, .ref 0)]) (stk' := [.int 2, .ref 0]) (mem' := fm g tp bt a b) (fun _ _ _ => rfl) ?_
  obtain ⟨gf1, hfrf1, hof1, hzf1⟩ := fr_failsq (x := 2) (g := g) (tp := tp) (bt := bt) (a := a) (b := b) (by omega) (by omega) (fm_gy_rf hxp hfl).2.1 (fm_gy_rf hxp hfl).2.2.1
  have gof1 := fm_gy_tr (fm_gy_rf hxp hfl) hof1
  have d22f1 : gf1 22 = nI D := by rw [hof1.1 22 (by decide) (by decide) (by decide) (by decide) (by decide) (by decide)]; first | exact eD | rfl
  have d23f1 : gf1 23 = nI K := by rw [hof1.1 23 (by decide) (by decide) (by decide) (by decide) (by decide) (by decide)]; first | exact eK | rfl
  refine fe_ivV hfrf1 (by omega) (by rfl) (by rfl) (by rfl) (by rfl) (by rfl) (by rfl) ?_
  exact fe_ret ⟨_, _, _, _, _, n, D, K, gof1, ⟨hT.1, hT.2.1, hT.2.2.1, hT.2.2.2.1, hT.2.2.2.2.1, ⟨d22f1, hD3, d23f1, hK30, hnK⟩, h8, h9⟩, Or.inl ⟨rfl, hzf1⟩, rfl⟩ (by rfl) (by rfl) (by rfl)
set_option maxRecDepth 20000 in
set_option maxHeartbeats 8000000 in
theorem ts_8 {S E F C W n D K : Nat} (hxp : fm_xp g S E F) (hfl : fm_flt g) (hH : fm_th a0 C W) (hT : fm_TS a0 g a n D K) (hR : fm_TR a n) : fe_R 10 gk_m251 7 [(1, .int 8), (0, .ref 0)] [] (fm g tp bt a b) (fm_FTS a0 g tp bt b S E) := by
  obtain ⟨⟨eD, hD3, eK, hK30, hnK⟩, h8, h9⟩ := hT.2.2.2.2.2
  refine fe_s 3 (pc' := 14) (lc' := [(1, .int 8), (0, .ref 0)]) (stk' := [.int 3374, .ref 1]) (mem' := fm g tp bt a b) (fun _ _ _ => rfl) ?_
  refine fe_ldI (by rfl) (by rfl) (fx_inN (i := 3374) (by omega) (by omega)) ?_
  rw [show Int32.toNatClampNeg (3374) = 3374 from rfl]
  rw [hT.2.2.2.2.1]
  refine fe_s 9 (pc' := 28) (lc' := [(3, .int (3846 + (6 * (nI n)))), (2, .int (nI n)), (1, .int 8), (0, .ref 0)]) (stk' := [.int 18, .int 8]) (mem' := fm g tp bt a b) (fun _ _ _ => rfl) ?_
  rw [show (3846 + (6 * (nI n)) : Int32) = nI (3846 + (6 * n)) from by simp only [show (3846 : Int32) = nI 3846 from rfl, show (6 : Int32) = nI 6 from rfl, nI_add, fm_mul]]
  refine fe_s 1 (pc' := cond (fx_cb .eq 8 18) 37 31) (lc' := [(3, .int (nI (3846 + (6 * n)))), (2, .int (nI n)), (1, .int 8), (0, .ref 0)]) (stk' := []) (mem' := fm g tp bt a b) (fun _ _ _ => rfl) ?_
  rw [show (fx_cb .eq 8 18) = false from by decide]
  dsimp only [cond]
  refine fe_s 2 (pc' := 34) (lc' := [(3, .int (nI (3846 + (6 * n)))), (2, .int (nI n)), (1, .int 8), (0, .ref 0)]) (stk' := [.int 19, .int 8]) (mem' := fm g tp bt a b) (fun _ _ _ => rfl) ?_
  refine fe_s 1 (pc' := cond (fx_cb .ne 8 19) 41 37) (lc' := [(3, .int (nI (3846 + (6 * n)))), (2, .int (nI n)), (1, .int 8), (0, .ref 0)]) (stk' := []) (mem' := fm g tp bt a b) (fun _ _ _ => rfl) ?_
  rw [show (fx_cb .ne 8 19) = true from by decide]
  dsimp only [cond]
  refine fe_s 4 (pc' := 47) (lc' := [(4, .int 0), (3, .int (nI (3846 + (6 * n)))), (2, .int (nI n)), (1, .int 8), (0, .ref 0)]) (stk' := [.int 11, .int 8]) (mem' := fm g tp bt a b) (fun _ _ _ => rfl) ?_
  refine fe_s 1 (pc' := cond (fx_cb .lt 8 11) 81 50) (lc' := [(4, .int 0), (3, .int (nI (3846 + (6 * n)))), (2, .int (nI n)), (1, .int 8), (0, .ref 0)]) (stk' := []) (mem' := fm g tp bt a b) (fun _ _ _ => rfl) ?_
  rw [show (fx_cb .lt 8 11) = true from by decide]
  dsimp only [cond]
  refine fe_s 2 (pc' := 83) (lc' := [(4, .int 0), (3, .int (nI (3846 + (6 * n)))), (2, .int (nI n)), (1, .int 8), (0, .ref 0)]) (stk' := [.int 2, .ref 0]) (mem' := fm g tp bt a b) (fun _ _ _ => rfl) ?_
  obtain ⟨gf1, hfrf1, hof1, hzf1⟩ := fr_failsq (x := 2) (g := g) (tp := tp) (bt := bt) (a := a) (b := b) (by omega) (by omega) (fm_gy_rf hxp hfl).2.1 (fm_gy_rf hxp hfl).2.2.1
  have gof1 := fm_gy_tr (fm_gy_rf hxp hfl) hof1
  have d22f1 : gf1 22 = nI D := by rw [hof1.1 22 (by decide) (by decide) (by decide) (by decide) (by decide) (by decide)]; first | exact eD | rfl
  have d23f1 : gf1 23 = nI K := by rw [hof1.1 23 (by decide) (by decide) (by decide) (by decide) (by decide) (by decide)]; first | exact eK | rfl
  refine fe_ivV hfrf1 (by omega) (by rfl) (by rfl) (by rfl) (by rfl) (by rfl) (by rfl) ?_
  exact fe_ret ⟨_, _, _, _, _, n, D, K, gof1, ⟨hT.1, hT.2.1, hT.2.2.1, hT.2.2.2.1, hT.2.2.2.2.1, ⟨d22f1, hD3, d23f1, hK30, hnK⟩, h8, h9⟩, Or.inl ⟨rfl, hzf1⟩, rfl⟩ (by rfl) (by rfl) (by rfl)
set_option maxRecDepth 20000 in
set_option maxHeartbeats 8000000 in
theorem ts_9 {S E F C W n D K : Nat} (hxp : fm_xp g S E F) (hfl : fm_flt g) (hH : fm_th a0 C W) (hT : fm_TS a0 g a n D K) (hR : fm_TR a n) : fe_R 10 gk_m251 7 [(1, .int 9), (0, .ref 0)] [] (fm g tp bt a b) (fm_FTS a0 g tp bt b S E) := by
  obtain ⟨⟨eD, hD3, eK, hK30, hnK⟩, h8, h9⟩ := hT.2.2.2.2.2
  refine fe_s 3 (pc' := 14) (lc' := [(1, .int 9), (0, .ref 0)]) (stk' := [.int 3374, .ref 1]) (mem' := fm g tp bt a b) (fun _ _ _ => rfl) ?_
  refine fe_ldI (by rfl) (by rfl) (fx_inN (i := 3374) (by omega) (by omega)) ?_
  rw [show Int32.toNatClampNeg (3374) = 3374 from rfl]
  rw [hT.2.2.2.2.1]
  refine fe_s 9 (pc' := 28) (lc' := [(3, .int (3846 + (6 * (nI n)))), (2, .int (nI n)), (1, .int 9), (0, .ref 0)]) (stk' := [.int 18, .int 9]) (mem' := fm g tp bt a b) (fun _ _ _ => rfl) ?_
  rw [show (3846 + (6 * (nI n)) : Int32) = nI (3846 + (6 * n)) from by simp only [show (3846 : Int32) = nI 3846 from rfl, show (6 : Int32) = nI 6 from rfl, nI_add, fm_mul]]
  refine fe_s 1 (pc' := cond (fx_cb .eq 9 18) 37 31) (lc' := [(3, .int (nI (3846 + (6 * n)))), (2, .int (nI n)), (1, .int 9), (0, .ref 0)]) (stk' := []) (mem' := fm g tp bt a b) (fun _ _ _ => rfl) ?_
  rw [show (fx_cb .eq 9 18) = false from by decide]
  dsimp only [cond]
  refine fe_s 2 (pc' := 34) (lc' := [(3, .int (nI (3846 + (6 * n)))), (2, .int (nI n)), (1, .int 9), (0, .ref 0)]) (stk' := [.int 19, .int 9]) (mem' := fm g tp bt a b) (fun _ _ _ => rfl) ?_
  refine fe_s 1 (pc' := cond (fx_cb .ne 9 19) 41 37) (lc' := [(3, .int (nI (3846 + (6 * n)))), (2, .int (nI n)), (1, .int 9), (0, .ref 0)]) (stk' := []) (mem' := fm g tp bt a b) (fun _ _ _ => rfl) ?_
  rw [show (fx_cb .ne 9 19) = true from by decide]
  dsimp only [cond]
  refine fe_s 4 (pc' := 47) (lc' := [(4, .int 0), (3, .int (nI (3846 + (6 * n)))), (2, .int (nI n)), (1, .int 9), (0, .ref 0)]) (stk' := [.int 11, .int 9]) (mem' := fm g tp bt a b) (fun _ _ _ => rfl) ?_
  refine fe_s 1 (pc' := cond (fx_cb .lt 9 11) 81 50) (lc' := [(4, .int 0), (3, .int (nI (3846 + (6 * n)))), (2, .int (nI n)), (1, .int 9), (0, .ref 0)]) (stk' := []) (mem' := fm g tp bt a b) (fun _ _ _ => rfl) ?_
  rw [show (fx_cb .lt 9 11) = true from by decide]
  dsimp only [cond]
  refine fe_s 2 (pc' := 83) (lc' := [(4, .int 0), (3, .int (nI (3846 + (6 * n)))), (2, .int (nI n)), (1, .int 9), (0, .ref 0)]) (stk' := [.int 2, .ref 0]) (mem' := fm g tp bt a b) (fun _ _ _ => rfl) ?_
  obtain ⟨gf1, hfrf1, hof1, hzf1⟩ := fr_failsq (x := 2) (g := g) (tp := tp) (bt := bt) (a := a) (b := b) (by omega) (by omega) (fm_gy_rf hxp hfl).2.1 (fm_gy_rf hxp hfl).2.2.1
  have gof1 := fm_gy_tr (fm_gy_rf hxp hfl) hof1
  have d22f1 : gf1 22 = nI D := by rw [hof1.1 22 (by decide) (by decide) (by decide) (by decide) (by decide) (by decide)]; first | exact eD | rfl
  have d23f1 : gf1 23 = nI K := by rw [hof1.1 23 (by decide) (by decide) (by decide) (by decide) (by decide) (by decide)]; first | exact eK | rfl
  refine fe_ivV hfrf1 (by omega) (by rfl) (by rfl) (by rfl) (by rfl) (by rfl) (by rfl) ?_
  exact fe_ret ⟨_, _, _, _, _, n, D, K, gof1, ⟨hT.1, hT.2.1, hT.2.2.1, hT.2.2.2.1, hT.2.2.2.2.1, ⟨d22f1, hD3, d23f1, hK30, hnK⟩, h8, h9⟩, Or.inl ⟨rfl, hzf1⟩, rfl⟩ (by rfl) (by rfl) (by rfl)
set_option maxRecDepth 20000 in
set_option maxHeartbeats 8000000 in
theorem ts_10 {S E F C W n D K : Nat} (hxp : fm_xp g S E F) (hfl : fm_flt g) (hH : fm_th a0 C W) (hT : fm_TS a0 g a n D K) (hR : fm_TR a n) : fe_R 10 gk_m251 7 [(1, .int 10), (0, .ref 0)] [] (fm g tp bt a b) (fm_FTS a0 g tp bt b S E) := by
  obtain ⟨⟨eD, hD3, eK, hK30, hnK⟩, h8, h9⟩ := hT.2.2.2.2.2
  refine fe_s 3 (pc' := 14) (lc' := [(1, .int 10), (0, .ref 0)]) (stk' := [.int 3374, .ref 1]) (mem' := fm g tp bt a b) (fun _ _ _ => rfl) ?_
  refine fe_ldI (by rfl) (by rfl) (fx_inN (i := 3374) (by omega) (by omega)) ?_
  rw [show Int32.toNatClampNeg (3374) = 3374 from rfl]
  rw [hT.2.2.2.2.1]
  refine fe_s 9 (pc' := 28) (lc' := [(3, .int (3846 + (6 * (nI n)))), (2, .int (nI n)), (1, .int 10), (0, .ref 0)]) (stk' := [.int 18, .int 10]) (mem' := fm g tp bt a b) (fun _ _ _ => rfl) ?_
  rw [show (3846 + (6 * (nI n)) : Int32) = nI (3846 + (6 * n)) from by simp only [show (3846 : Int32) = nI 3846 from rfl, show (6 : Int32) = nI 6 from rfl, nI_add, fm_mul]]
  refine fe_s 1 (pc' := cond (fx_cb .eq 10 18) 37 31) (lc' := [(3, .int (nI (3846 + (6 * n)))), (2, .int (nI n)), (1, .int 10), (0, .ref 0)]) (stk' := []) (mem' := fm g tp bt a b) (fun _ _ _ => rfl) ?_
  rw [show (fx_cb .eq 10 18) = false from by decide]
  dsimp only [cond]
  refine fe_s 2 (pc' := 34) (lc' := [(3, .int (nI (3846 + (6 * n)))), (2, .int (nI n)), (1, .int 10), (0, .ref 0)]) (stk' := [.int 19, .int 10]) (mem' := fm g tp bt a b) (fun _ _ _ => rfl) ?_
  refine fe_s 1 (pc' := cond (fx_cb .ne 10 19) 41 37) (lc' := [(3, .int (nI (3846 + (6 * n)))), (2, .int (nI n)), (1, .int 10), (0, .ref 0)]) (stk' := []) (mem' := fm g tp bt a b) (fun _ _ _ => rfl) ?_
  rw [show (fx_cb .ne 10 19) = true from by decide]
  dsimp only [cond]
  refine fe_s 4 (pc' := 47) (lc' := [(4, .int 0), (3, .int (nI (3846 + (6 * n)))), (2, .int (nI n)), (1, .int 10), (0, .ref 0)]) (stk' := [.int 11, .int 10]) (mem' := fm g tp bt a b) (fun _ _ _ => rfl) ?_
  refine fe_s 1 (pc' := cond (fx_cb .lt 10 11) 81 50) (lc' := [(4, .int 0), (3, .int (nI (3846 + (6 * n)))), (2, .int (nI n)), (1, .int 10), (0, .ref 0)]) (stk' := []) (mem' := fm g tp bt a b) (fun _ _ _ => rfl) ?_
  rw [show (fx_cb .lt 10 11) = true from by decide]
  dsimp only [cond]
  refine fe_s 2 (pc' := 83) (lc' := [(4, .int 0), (3, .int (nI (3846 + (6 * n)))), (2, .int (nI n)), (1, .int 10), (0, .ref 0)]) (stk' := [.int 2, .ref 0]) (mem' := fm g tp bt a b) (fun _ _ _ => rfl) ?_
  obtain ⟨gf1, hfrf1, hof1, hzf1⟩ := fr_failsq (x := 2) (g := g) (tp := tp) (bt := bt) (a := a) (b := b) (by omega) (by omega) (fm_gy_rf hxp hfl).2.1 (fm_gy_rf hxp hfl).2.2.1
  have gof1 := fm_gy_tr (fm_gy_rf hxp hfl) hof1
  have d22f1 : gf1 22 = nI D := by rw [hof1.1 22 (by decide) (by decide) (by decide) (by decide) (by decide) (by decide)]; first | exact eD | rfl
  have d23f1 : gf1 23 = nI K := by rw [hof1.1 23 (by decide) (by decide) (by decide) (by decide) (by decide) (by decide)]; first | exact eK | rfl
  refine fe_ivV hfrf1 (by omega) (by rfl) (by rfl) (by rfl) (by rfl) (by rfl) (by rfl) ?_
  exact fe_ret ⟨_, _, _, _, _, n, D, K, gof1, ⟨hT.1, hT.2.1, hT.2.2.1, hT.2.2.2.1, hT.2.2.2.2.1, ⟨d22f1, hD3, d23f1, hK30, hnK⟩, h8, h9⟩, Or.inl ⟨rfl, hzf1⟩, rfl⟩ (by rfl) (by rfl) (by rfl)
end F4870_step
end MH19_1
