/-! ===== fx: walking: a step of all ===== -/
section F4900_walk
variable {g : Nat → Int32} {tp bt : Int64} {a0 a : Nat → Nat → Int32} {b : Nat → Nat → Int64}
theorem fr_leftOfX {V : Nat} (hV : V < 8) : fr_T 2 267 [.ref 0, .int (nI V)] (fm g tp bt a b) (some (.int (a 1 (281 + 5 * V)))) (fm g tp bt a b) := by
  refine fr_meth (by rfl) (by rfl) ?_
  refine fr_s 3 (pc' := 5) (lc' := [(0, .ref 0), (1, .int (nI V))]) (stk' := [.int (nI V), .ref 1]) (mem' := fm g tp bt a b) (fun _ _ _ => rfl) ?_
  refine fr_ivS fr_walkerRow (by omega) (by rfl) (by rfl) (by rfl) (by rfl) (by rfl) ?_
  rw [show (278 + 5 * (nI V) : Int32) = nI (278 + (5 * V)) from by simp only [show (278 : Int32) = nI 278 from rfl, show (5 : Int32) = nI 5 from rfl, nI_add, fm_mul]]
  refine fr_s 2 (pc' := 10) (lc' := [(0, .ref 0), (1, .int (nI V))]) (stk' := [.int ((nI (278 + (5 * V))) + 3), .ref 1]) (mem' := fm g tp bt a b) (fun _ _ _ => rfl) ?_
  rw [show ((nI (278 + (5 * V))) + 3 : Int32) = nI ((278 + (5 * V)) + 3) from by simp only [show (3 : Int32) = nI 3 from rfl, nI_add, fm_mul]]
  refine fr_ldI (by rfl) (by rfl) (fx_inN (i := (278 + (5 * V)) + 3) (by omega) (by omega)) ?_
  rw [show Int32.toNatClampNeg (nI ((278 + (5 * V)) + 3)) = (278 + (5 * V)) + 3 from nI_clamp (by omega)]
  rw [show (278 + (5 * V)) + 3 = 281 + 5 * V by omega]
  exact fr_ret (by rfl) (by rfl) (by rfl)
theorem fr_routeOfX {W K : Nat} (hW : W < 8) (hK : K < 20) : fr_T 2 268 [.ref 0, .int (nI W), .int (nI K)] (fm g tp bt a b) (some (.int (a 1 (318 + 20 * W + K)))) (fm g tp bt a b) := by
  refine fr_meth (by rfl) (by rfl) ?_
  refine fr_s 9 (pc' := 14) (lc' := [(0, .ref 0), (1, .int (nI W)), (2, .int (nI K))]) (stk' := [.int ((318 + (20 * (nI W))) + (nI K)), .ref 1]) (mem' := fm g tp bt a b) (fun _ _ _ => rfl) ?_
  rw [show ((318 + (20 * (nI W))) + (nI K) : Int32) = nI ((318 + (20 * W)) + K) from by simp only [show (318 : Int32) = nI 318 from rfl, show (20 : Int32) = nI 20 from rfl, nI_add, fm_mul]]
  refine fr_ldI (by rfl) (by rfl) (fx_inN (i := (318 + (20 * W)) + K) (by omega) (by omega)) ?_
  rw [show Int32.toNatClampNeg (nI ((318 + (20 * W)) + K)) = (318 + (20 * W)) + K from nI_clamp (by omega)]
  rw [show (318 + (20 * W)) + K = 318 + 20 * W + K by omega]
  exact fr_ret (by rfl) (by rfl) (by rfl)
theorem fq_isIce {C : Nat} (ht : fm_t a) (hC : C < 10) : fm_Pz 3 257 [.ref 0, .int (nI C)] (fm g tp bt a b) := by
  refine fm_Pz_of (by rfl) (by rfl) ?_
  refine fe_s 3 (pc' := 3) (lc' := [(0, .ref 0), (1, .int (nI C))]) (stk' := [.long ((nI C).toInt64), .ref 0]) (mem' := fm g tp bt a b) (fun _ _ _ => rfl) ?_
  obtain ⟨v8, mem8, ⟨x8, hx8, hR8⟩, hfr8⟩ := fr_isCell (c := (nI C).toInt64) (g := g) (tp := tp) (bt := bt) (b := b) ht
  cases hR8
  refine fe_ivV hfr8 (by omega) (by rfl) (by rfl) (by rfl) (by rfl) (by rfl) (by rfl) ?_
  rcases hx8 with rfl | rfl
  · refine fe_s 1 (pc' := cond (fx_cb .eq 0 0) 21 9) (lc' := [(0, .ref 0), (1, .int (nI C))]) (stk' := []) (mem' := fm g tp bt a b) (fun _ _ _ => rfl) ?_
    rw [show (fx_cb .eq 0 0) = true from by decide]
    dsimp only [cond]
    refine fe_s 1 (pc' := 22) (lc' := [(0, .ref 0), (1, .int (nI C))]) (stk' := [.int 0]) (mem' := fm g tp bt a b) (fun _ _ _ => rfl) ?_
    exact fe_ret ⟨_, Or.inl rfl, rfl⟩ (by rfl) (by rfl) (by rfl)
  · refine fe_s 1 (pc' := cond (fx_cb .eq 1 0) 21 9) (lc' := [(0, .ref 0), (1, .int (nI C))]) (stk' := []) (mem' := fm g tp bt a b) (fun _ _ _ => rfl) ?_
    rw [show (fx_cb .eq 1 0) = false from by decide]
    dsimp only [cond]
    refine fe_s 2 (pc' := 11) (lc' := [(0, .ref 0), (1, .int (nI C))]) (stk' := [.int (nI C), .ref 0]) (mem' := fm g tp bt a b) (fun _ _ _ => rfl) ?_
    obtain ⟨v1, z2, hv1⟩ := fq_isShore (C := C) (g := g) (tp := tp) (bt := bt) (a := a) (b := b) (by omega)
    refine fe_ivV hv1 (by omega) (by rfl) (by rfl) (by rfl) (by rfl) (by rfl) (by rfl) ?_
    rcases z2 with rfl | rfl
    · refine fe_s 1 (pc' := cond (fx_cb .ne 0 0) 21 17) (lc' := [(0, .ref 0), (1, .int (nI C))]) (stk' := []) (mem' := fm g tp bt a b) (fun _ _ _ => rfl) ?_
      rw [show (fx_cb .ne 0 0) = false from by decide]
      dsimp only [cond]
      refine fe_s 2 (pc' := 22) (lc' := [(0, .ref 0), (1, .int (nI C))]) (stk' := [.int 1]) (mem' := fm g tp bt a b) (fun _ _ _ => rfl) ?_
      exact fe_ret ⟨_, Or.inr rfl, rfl⟩ (by rfl) (by rfl) (by rfl)
    · refine fe_s 1 (pc' := cond (fx_cb .ne 1 0) 21 17) (lc' := [(0, .ref 0), (1, .int (nI C))]) (stk' := []) (mem' := fm g tp bt a b) (fun _ _ _ => rfl) ?_
      rw [show (fx_cb .ne 1 0) = true from by decide]
      dsimp only [cond]
      refine fe_s 1 (pc' := 22) (lc' := [(0, .ref 0), (1, .int (nI C))]) (stk' := [.int 0]) (mem' := fm g tp bt a b) (fun _ _ _ => rfl) ?_
      exact fe_ret ⟨_, Or.inl rfl, rfl⟩ (by rfl) (by rfl) (by rfl)
theorem fq_strengthOf {C : Nat} (ht : fm_t a) (hC : C < 10) : fm_P 5 271 [.ref 0, .int (nI C)] (fm g tp bt a b) := by
  refine fm_P_of (by rfl) (by rfl) ?_
  refine fe_s 2 (pc' := 2) (lc' := [(0, .ref 0), (1, .int (nI C))]) (stk' := [.int (nI C), .ref 0]) (mem' := fm g tp bt a b) (fun _ _ _ => rfl) ?_
  obtain ⟨v1, z2, hv1⟩ := fq_isShore (C := C) (g := g) (tp := tp) (bt := bt) (a := a) (b := b) (by omega)
  refine fe_ivV hv1 (by omega) (by rfl) (by rfl) (by rfl) (by rfl) (by rfl) (by rfl) ?_
  rcases z2 with rfl | rfl
  · refine fe_s 1 (pc' := cond (fx_cb .eq 0 0) 14 8) (lc' := [(0, .ref 0), (1, .int (nI C))]) (stk' := []) (mem' := fm g tp bt a b) (fun _ _ _ => rfl) ?_
    rw [show (fx_cb .eq 0 0) = true from by decide]
    dsimp only [cond]
    refine fe_s 2 (pc' := 16) (lc' := [(0, .ref 0), (1, .int (nI C))]) (stk' := [.int (nI C), .ref 0]) (mem' := fm g tp bt a b) (fun _ _ _ => rfl) ?_
    obtain ⟨v3, z4, hv3⟩ := fq_isBroken (C := C) (g := g) (tp := tp) (bt := bt) (a := a) (b := b) (by omega)
    refine fe_ivV hv3 (by omega) (by rfl) (by rfl) (by rfl) (by rfl) (by rfl) (by rfl) ?_
    rcases z4 with rfl | rfl
    · refine fe_s 1 (pc' := cond (fx_cb .eq 0 0) 26 22) (lc' := [(0, .ref 0), (1, .int (nI C))]) (stk' := []) (mem' := fm g tp bt a b) (fun _ _ _ => rfl) ?_
      rw [show (fx_cb .eq 0 0) = true from by decide]
      dsimp only [cond]
      refine fe_s 4 (pc' := 32) (lc' := [(0, .ref 0), (1, .int (nI C))]) (stk' := [.int (nI C), .ref 1, .int 0]) (mem' := fm g tp bt a b) (fun _ _ _ => rfl) ?_
      refine fe_ivS fr_cellRow (by omega) (by rfl) (by rfl) (by rfl) (by rfl) (by rfl) ?_
      rw [show (8 + 6 * (nI C) : Int32) = nI (8 + (6 * C)) from by simp only [show (8 : Int32) = nI 8 from rfl, show (6 : Int32) = nI 6 from rfl, nI_add, fm_mul]]
      refine fe_s 2 (pc' := 37) (lc' := [(0, .ref 0), (1, .int (nI C))]) (stk' := [.int ((nI (8 + (6 * C))) + 1), .ref 1, .int 0]) (mem' := fm g tp bt a b) (fun _ _ _ => rfl) ?_
      rw [show ((nI (8 + (6 * C))) + 1 : Int32) = nI ((8 + (6 * C)) + 1) from by simp only [show (1 : Int32) = nI 1 from rfl, nI_add, fm_mul]]
      refine fe_ldI (by rfl) (by rfl) (fx_inN (i := (8 + (6 * C)) + 1) (by omega) (by omega)) ?_
      rw [show Int32.toNatClampNeg (nI ((8 + (6 * C)) + 1)) = (8 + (6 * C)) + 1 from nI_clamp (by omega)]
      refine fe_s 3 (pc' := 43) (lc' := [(0, .ref 0), (1, .int (nI C))]) (stk' := [.int 2, .ref 1, .int (a 1 ((8 + (6 * C)) + 1)), .int 0]) (mem' := fm g tp bt a b) (fun _ _ _ => rfl) ?_
      refine fe_ldI (by rfl) (by rfl) (fx_inN (i := 2) (by omega) (by omega)) ?_
      rw [show Int32.toNatClampNeg (2) = 2 from rfl]
      refine fe_s 2 (pc' := 46) (lc' := [(0, .ref 0), (1, .int (nI C))]) (stk' := [.int (nI C), .ref 0, .int (a 1 2), .int (a 1 ((8 + (6 * C)) + 1)), .int 0]) (mem' := fm g tp bt a b) (fun _ _ _ => rfl) ?_
      obtain ⟨v5, hv5⟩ := fq_cameLately (C := C) (g := g) (tp := tp) (bt := bt) (a := a) (b := b) ht (by omega)
      refine fe_ivV hv5 (by omega) (by rfl) (by rfl) (by rfl) (by rfl) (by rfl) (by rfl) ?_
      refine fe_s 2 (pc' := 51) (lc' := [(0, .ref 0), (1, .int (nI C))]) (stk' := [.int ((a 1 ((8 + (6 * C)) + 1)) - ((a 1 2) * v5)), .int 0]) (mem' := fm g tp bt a b) (fun _ _ _ => rfl) ?_
      refine fe_s 1 (pc' := 54) (lc' := [(0, .ref 0), (1, .int (nI C))]) (stk' := [.int (if 0 < ((a 1 ((8 + (6 * C)) + 1)) - ((a 1 2) * v5)) then ((a 1 ((8 + (6 * C)) + 1)) - ((a 1 2) * v5)) else 0)]) (mem' := fm g tp bt a b) (fun _ _ _ => rfl) ?_
      exact fe_ret ⟨_, rfl⟩ (by rfl) (by rfl) (by rfl)
    · refine fe_s 1 (pc' := cond (fx_cb .eq 1 0) 26 22) (lc' := [(0, .ref 0), (1, .int (nI C))]) (stk' := []) (mem' := fm g tp bt a b) (fun _ _ _ => rfl) ?_
      rw [show (fx_cb .eq 1 0) = false from by decide]
      dsimp only [cond]
      refine fe_s 2 (pc' := 54) (lc' := [(0, .ref 0), (1, .int (nI C))]) (stk' := [.int 0]) (mem' := fm g tp bt a b) (fun _ _ _ => rfl) ?_
      exact fe_ret ⟨_, rfl⟩ (by rfl) (by rfl) (by rfl)
  · refine fe_s 1 (pc' := cond (fx_cb .eq 1 0) 14 8) (lc' := [(0, .ref 0), (1, .int (nI C))]) (stk' := []) (mem' := fm g tp bt a b) (fun _ _ _ => rfl) ?_
    rw [show (fx_cb .eq 1 0) = false from by decide]
    dsimp only [cond]
    refine fe_s 2 (pc' := 54) (lc' := [(0, .ref 0), (1, .int (nI C))]) (stk' := [.int 999]) (mem' := fm g tp bt a b) (fun _ _ _ => rfl) ?_
    exact fe_ret ⟨_, rfl⟩ (by rfl) (by rfl) (by rfl)
theorem fr_soaks {T : Nat} {V : Nat} (hB : fm_B a0) (hD : fm_D a0 a T) (hV : V < 8) : ∃ (v : Option Value) (mem' : fx_M), (fun R => ∃ a' : Nat → Nat → Int32, fm_D a0 a' T ∧ R = (none, fm g tp bt a' b)) (v, mem') ∧ fr_T 2 283 [.ref 0, .int (nI V)] (fm g tp bt a b) v mem' := by
  obtain ⟨NC, hNC, eNC⟩ := fm_B_0 hB (i := 0) (n := 10) (by decide) rfl
  obtain ⟨NW, hNW, eNW⟩ := fm_B_0 hB (i := 1) (n := 8) (by decide) rfl
  have hT9 := hD.2.2.2.2.1
  refine fe_meth (F := fun R => ∃ a' : Nat → Nat → Int32, fm_D a0 a' T ∧ R = (none, fm g tp bt a' b)) (M := gk_m283) (by rfl) (by rfl) ?_
  refine fe_s 3 (pc' := 5) (lc' := [(0, .ref 0), (1, .int (nI V))]) (stk' := [.int (nI V), .ref 1]) (mem' := fm g tp bt a b) (fun _ _ _ => rfl) ?_
  refine fe_ivS fr_walkerRow (by omega) (by rfl) (by rfl) (by rfl) (by rfl) (by rfl) ?_
  rw [show (278 + 5 * (nI V) : Int32) = nI (278 + (5 * V)) from by simp only [show (278 : Int32) = nI 278 from rfl, show (5 : Int32) = nI 5 from rfl, nI_add, fm_mul]]
  refine fe_s 3 (pc' := 11) (lc' := [(0, .ref 0), (1, .int (nI V))]) (stk' := [.int 1, .int ((nI (278 + (5 * V))) + 2), .ref 1]) (mem' := fm g tp bt a b) (fun _ _ _ => rfl) ?_
  rw [show ((nI (278 + (5 * V))) + 2 : Int32) = nI ((278 + (5 * V)) + 2) from by simp only [show (2 : Int32) = nI 2 from rfl, nI_add, fm_mul]]
  refine fe_stI (mem' := fm g tp bt (fm_u a 1 (nI ((278 + (5 * V)) + 2) : Int32).toNatClampNeg 1) b) (by rfl) (by rfl) (fx_inN (i := (278 + (5 * V)) + 2) (by omega) (by omega)) (by rfl) ?_
  rw [show Int32.toNatClampNeg (nI ((278 + (5 * V)) + 2)) = (278 + (5 * V)) + 2 from nI_clamp (by omega)]
  obtain ⟨at1, hat1⟩ : ∃ z, z = fm_u a 1 ((278 + (5 * V)) + 2) 1 := ⟨_, rfl⟩
  rw [← hat1]
  have hDt1 : fm_D a0 at1 T := by rw [hat1, show (278 + (5 * V)) + 2 = 280 + 5 * V by omega]; exact fm_Dw2 (X := 1) hD (by omega) (by omega)
  refine fe_s 3 (pc' := 17) (lc' := [(0, .ref 0), (1, .int (nI V))]) (stk' := [.int (nI V), .ref 1]) (mem' := fm g tp bt at1 b) (fun _ _ _ => rfl) ?_
  refine fe_ivS fr_walkerRow (by omega) (by rfl) (by rfl) (by rfl) (by rfl) (by rfl) ?_
  rw [show (278 + 5 * (nI V) : Int32) = nI (278 + (5 * V)) from by simp only [show (278 : Int32) = nI 278 from rfl, show (5 : Int32) = nI 5 from rfl, nI_add, fm_mul]]
  refine fe_s 3 (pc' := 23) (lc' := [(0, .ref 0), (1, .int (nI V))]) (stk' := [.int 0, .int ((nI (278 + (5 * V))) + 3), .ref 1]) (mem' := fm g tp bt at1 b) (fun _ _ _ => rfl) ?_
  rw [show ((nI (278 + (5 * V))) + 3 : Int32) = nI ((278 + (5 * V)) + 3) from by simp only [show (3 : Int32) = nI 3 from rfl, nI_add, fm_mul]]
  refine fe_stI (mem' := fm g tp bt (fm_u at1 1 (nI ((278 + (5 * V)) + 3) : Int32).toNatClampNeg 0) b) (by rfl) (by rfl) (fx_inN (i := (278 + (5 * V)) + 3) (by omega) (by omega)) (by rfl) ?_
  rw [show Int32.toNatClampNeg (nI ((278 + (5 * V)) + 3)) = (278 + (5 * V)) + 3 from nI_clamp (by omega)]
  obtain ⟨at2, hat2⟩ : ∃ z, z = fm_u at1 1 ((278 + (5 * V)) + 3) 0 := ⟨_, rfl⟩
  rw [← hat2]
  have hDt2 : fm_D a0 at2 T := by rw [hat2, show (278 + (5 * V)) + 3 = 281 + 5 * V by omega]; exact fm_Dw3 (X := 0) hDt1 (by omega) (by omega)
  exact fe_ret ⟨_, hDt2, rfl⟩ (by rfl) (by rfl) (by rfl)
theorem fr_breaks {T : Nat} {C : Nat} (hB : fm_B a0) (hD : fm_D a0 a T) (hC : C < 10) : ∃ (v : Option Value) (mem' : fx_M), (fun R => ∃ a' : Nat → Nat → Int32, fm_D a0 a' T ∧ R = (none, fm g tp bt a' b)) (v, mem') ∧ fr_T 4 282 [.ref 0, .int (nI C)] (fm g tp bt a b) v mem' := by
  obtain ⟨NC, hNC, eNC⟩ := fm_B_0 hB (i := 0) (n := 10) (by decide) rfl
  obtain ⟨NW, hNW, eNW⟩ := fm_B_0 hB (i := 1) (n := 8) (by decide) rfl
  have hT9 := hD.2.2.2.2.1
  refine fe_meth (F := fun R => ∃ a' : Nat → Nat → Int32, fm_D a0 a' T ∧ R = (none, fm g tp bt a' b)) (M := gk_m282) (by rfl) (by rfl) ?_
  refine fe_s 3 (pc' := 5) (lc' := [(0, .ref 0), (1, .int (nI C))]) (stk' := [.int (nI C), .ref 1]) (mem' := fm g tp bt a b) (fun _ _ _ => rfl) ?_
  refine fe_ivS fr_cellRow (by omega) (by rfl) (by rfl) (by rfl) (by rfl) (by rfl) ?_
  rw [show (8 + 6 * (nI C) : Int32) = nI (8 + (6 * C)) from by simp only [show (8 : Int32) = nI 8 from rfl, show (6 : Int32) = nI 6 from rfl, nI_add, fm_mul]]
  refine fe_s 3 (pc' := 11) (lc' := [(0, .ref 0), (1, .int (nI C))]) (stk' := [.int 1, .int ((nI (8 + (6 * C))) + 4), .ref 1]) (mem' := fm g tp bt a b) (fun _ _ _ => rfl) ?_
  rw [show ((nI (8 + (6 * C))) + 4 : Int32) = nI ((8 + (6 * C)) + 4) from by simp only [show (4 : Int32) = nI 4 from rfl, nI_add, fm_mul]]
  refine fe_stI (mem' := fm g tp bt (fm_u a 1 (nI ((8 + (6 * C)) + 4) : Int32).toNatClampNeg 1) b) (by rfl) (by rfl) (fx_inN (i := (8 + (6 * C)) + 4) (by omega) (by omega)) (by rfl) ?_
  rw [show Int32.toNatClampNeg (nI ((8 + (6 * C)) + 4)) = (8 + (6 * C)) + 4 from nI_clamp (by omega)]
  obtain ⟨at1, hat1⟩ : ∃ z, z = fm_u a 1 ((8 + (6 * C)) + 4) 1 := ⟨_, rfl⟩
  rw [← hat1]
  have hDt1 : fm_D a0 at1 T := by rw [hat1, show (8 + (6 * C)) + 4 = 12 + 6 * C by omega]; exact fm_Dc4 (X := 1) hD (by omega) (by omega)
  refine fe_s 3 (pc' := 17) (lc' := [(0, .ref 0), (1, .int (nI C))]) (stk' := [.int (nI C), .ref 1]) (mem' := fm g tp bt at1 b) (fun _ _ _ => rfl) ?_
  refine fe_ivS fr_cellRow (by omega) (by rfl) (by rfl) (by rfl) (by rfl) (by rfl) ?_
  rw [show (8 + 6 * (nI C) : Int32) = nI (8 + (6 * C)) from by simp only [show (8 : Int32) = nI 8 from rfl, show (6 : Int32) = nI 6 from rfl, nI_add, fm_mul]]
  refine fe_s 3 (pc' := 23) (lc' := [(0, .ref 0), (1, .int (nI C))]) (stk' := [.int 0, .int ((nI (8 + (6 * C))) + 1), .ref 1]) (mem' := fm g tp bt at1 b) (fun _ _ _ => rfl) ?_
  rw [show ((nI (8 + (6 * C))) + 1 : Int32) = nI ((8 + (6 * C)) + 1) from by simp only [show (1 : Int32) = nI 1 from rfl, nI_add, fm_mul]]
  refine fe_stI (mem' := fm g tp bt (fm_u at1 1 (nI ((8 + (6 * C)) + 1) : Int32).toNatClampNeg 0) b) (by rfl) (by rfl) (fx_inN (i := (8 + (6 * C)) + 1) (by omega) (by omega)) (by rfl) ?_
  rw [show Int32.toNatClampNeg (nI ((8 + (6 * C)) + 1)) = (8 + (6 * C)) + 1 from nI_clamp (by omega)]
  obtain ⟨at2, hat2⟩ : ∃ z, z = fm_u at1 1 ((8 + (6 * C)) + 1) 0 := ⟨_, rfl⟩
  rw [← hat2]
  have hDt2 : fm_D a0 at2 T := by rw [hat2, show (8 + (6 * C)) + 1 = 9 + 6 * C by omega]; exact fm_Dc1 hDt1 (by omega)
  refine fe_s 2 (pc' := 26) (lc' := [(2, .int 0), (0, .ref 0), (1, .int (nI C))]) (stk' := []) (mem' := fm g tp bt at2 b) (fun _ _ _ => rfl) ?_
  have loop3 : ∀ (r i3 : Nat), i3 + r = 21 → ∀ a_3 : Nat → Nat → Int32, fm_D a0 a_3 T → fe_R 3 gk_m282 26 [(2, .int (nI i3)), (0, .ref 0), (1, .int (nI C))] [] (fm g tp bt a_3 b) (fun R => ∃ a' : Nat → Nat → Int32, fm_D a0 a' T ∧ R = (none, fm g tp bt a' b)) := by
    intro r
    induction r with
    | zero =>
      intro i3 hi3 a_3 hD_3
      obtain rfl : i3 = 21 := by omega
      refine fe_s 2 (pc' := 29) (lc' := [(2, .int (nI 21)), (0, .ref 0), (1, .int (nI C))]) (stk' := [.int 21, .int (nI 21)]) (mem' := fm g tp bt a_3 b) (fun _ _ _ => rfl) ?_
      refine fe_s 1 (pc' := cond (fx_cb .ge (nI 21) 21) 53 32) (lc' := [(2, .int (nI 21)), (0, .ref 0), (1, .int (nI C))]) (stk' := []) (mem' := fm g tp bt a_3 b) (fun _ _ _ => rfl) ?_
      rw [show (fx_cb .ge (nI 21) 21) = true from cb_geT (a := 21) (b := 21) (by omega) (by omega) (by omega)]
      dsimp only [cond]
      refine fe_s 2 (pc' := 55) (lc' := [(2, .int 0), (0, .ref 0), (1, .int (nI C))]) (stk' := []) (mem' := fm g tp bt a_3 b) (fun _ _ _ => rfl) ?_
      have loop4 : ∀ (r i4 : Nat), i4 + r = NW → ∀ a_4 : Nat → Nat → Int32, fm_D a0 a_4 T → fe_R 3 gk_m282 55 [(2, .int (nI i4)), (0, .ref 0), (1, .int (nI C))] [] (fm g tp bt a_4 b) (fun R => ∃ a' : Nat → Nat → Int32, fm_D a0 a' T ∧ R = (none, fm g tp bt a' b)) := by
        intro r
        induction r with
        | zero =>
          intro i4 hi4 a_4 hD_4
          obtain rfl : NW = i4 := by omega
          refine fe_s 4 (pc' := 61) (lc' := [(2, .int (nI NW)), (0, .ref 0), (1, .int (nI C))]) (stk' := [.int 1, .ref 1, .int (nI NW)]) (mem' := fm g tp bt a_4 b) (fun _ _ _ => rfl) ?_
          refine fe_ldI (by rfl) (by rfl) (fx_inN (i := 1) (by omega) (by omega)) ?_
          rw [show Int32.toNatClampNeg (1) = 1 from rfl]
          rw [show a_4 1 1 = nI NW from (fm_D_h hD_4 (by decide) rfl).trans eNW]
          refine fe_s 1 (pc' := cond (fx_cb .ge (nI NW) (nI NW)) 93 65) (lc' := [(2, .int (nI NW)), (0, .ref 0), (1, .int (nI C))]) (stk' := []) (mem' := fm g tp bt a_4 b) (fun _ _ _ => rfl) ?_
          rw [show (fx_cb .ge (nI NW) (nI NW)) = true from cb_geT (a := NW) (b := NW) (by omega) (by omega) (by omega)]
          dsimp only [cond]
          exact fe_ret ⟨_, hD_4, rfl⟩ (by rfl) (by rfl) (by rfl)
        | succ r ih4 =>
          intro i4 hi4 a_4 hD_4
          have hl4 : i4 < NW := by omega
          refine fe_s 4 (pc' := 61) (lc' := [(2, .int (nI i4)), (0, .ref 0), (1, .int (nI C))]) (stk' := [.int 1, .ref 1, .int (nI i4)]) (mem' := fm g tp bt a_4 b) (fun _ _ _ => rfl) ?_
          refine fe_ldI (by rfl) (by rfl) (fx_inN (i := 1) (by omega) (by omega)) ?_
          rw [show Int32.toNatClampNeg (1) = 1 from rfl]
          rw [show a_4 1 1 = nI NW from (fm_D_h hD_4 (by decide) rfl).trans eNW]
          refine fe_s 1 (pc' := cond (fx_cb .ge (nI i4) (nI NW)) 93 65) (lc' := [(2, .int (nI i4)), (0, .ref 0), (1, .int (nI C))]) (stk' := []) (mem' := fm g tp bt a_4 b) (fun _ _ _ => rfl) ?_
          rw [show (fx_cb .ge (nI i4) (nI NW)) = false from cb_geF (a := i4) (b := NW) (by omega) (by omega) (by omega)]
          dsimp only [cond]
          refine fe_s 2 (pc' := 67) (lc' := [(2, .int (nI i4)), (0, .ref 0), (1, .int (nI C))]) (stk' := [.int (nI i4), .ref 0]) (mem' := fm g tp bt a_4 b) (fun _ _ _ => rfl) ?_
          refine fe_ivV (fr_whereOf (W := i4) (g := g) (tp := tp) (bt := bt) (a := a_4) (b := b) (by omega)) (by omega) (by rfl) (by rfl) (by rfl) (by rfl) (by rfl) (by rfl) ?_
          obtain ⟨l5, hl5, el5⟩ := fm_D_w1 hD_4 (W := i4) (by omega)
          rw [el5]
          refine fe_s 1 (pc' := 71) (lc' := [(2, .int (nI i4)), (0, .ref 0), (1, .int (nI C))]) (stk' := [.int (nI C), .int (nI l5)]) (mem' := fm g tp bt a_4 b) (fun _ _ _ => rfl) ?_
          refine fe_s 1 (pc' := cond (fx_cb .ne (nI l5) (nI C)) 87 74) (lc' := [(2, .int (nI i4)), (0, .ref 0), (1, .int (nI C))]) (stk' := []) (mem' := fm g tp bt a_4 b) (fun _ _ _ => rfl) ?_
          by_cases h6 : l5 = C
          · rw [show (fx_cb .ne (nI l5) (nI C)) = false from cb_neF (a := l5) (b := C) (by omega) (by omega) (by omega)]
            dsimp only [cond]
            refine fe_s 2 (pc' := 76) (lc' := [(2, .int (nI i4)), (0, .ref 0), (1, .int (nI C))]) (stk' := [.int (nI i4), .ref 0]) (mem' := fm g tp bt a_4 b) (fun _ _ _ => rfl) ?_
            obtain ⟨v7, z8, hv7⟩ := fq_isWet (V := i4) (g := g) (tp := tp) (bt := bt) (a := a_4) (b := b) (by omega)
            refine fe_ivV hv7 (by omega) (by rfl) (by rfl) (by rfl) (by rfl) (by rfl) (by rfl) ?_
            rcases z8 with rfl | rfl
            · refine fe_s 1 (pc' := cond (fx_cb .ne 0 0) 87 82) (lc' := [(2, .int (nI i4)), (0, .ref 0), (1, .int (nI C))]) (stk' := []) (mem' := fm g tp bt a_4 b) (fun _ _ _ => rfl) ?_
              rw [show (fx_cb .ne 0 0) = false from by decide]
              dsimp only [cond]
              refine fe_s 2 (pc' := 84) (lc' := [(2, .int (nI i4)), (0, .ref 0), (1, .int (nI C))]) (stk' := [.int (nI i4), .ref 0]) (mem' := fm g tp bt a_4 b) (fun _ _ _ => rfl) ?_
              obtain ⟨vd9, memd9, ⟨ad9, hDd9, hRd9⟩, hfrd9⟩ := fr_soaks (V := i4) (g := g) (tp := tp) (bt := bt) (a := a_4) (b := b) hB hD_4 (by omega)
              cases hRd9
              refine fe_ivV hfrd9 (by omega) (by rfl) (by rfl) (by rfl) (by rfl) (by rfl) (by rfl) ?_
              refine fe_s 2 (pc' := 55) (lc' := [(2, .int ((nI i4) + 1)), (0, .ref 0), (1, .int (nI C))]) (stk' := []) (mem' := fm g tp bt ad9 b) (fun _ _ _ => rfl) ?_
              rw [show ((nI i4) + 1 : Int32) = nI (i4 + 1) from by simp only [show (1 : Int32) = nI 1 from rfl, nI_add, fm_mul]]
              exact ih4 (i4 + 1) (by omega) ad9 hDd9
            · refine fe_s 1 (pc' := cond (fx_cb .ne 1 0) 87 82) (lc' := [(2, .int (nI i4)), (0, .ref 0), (1, .int (nI C))]) (stk' := []) (mem' := fm g tp bt a_4 b) (fun _ _ _ => rfl) ?_
              rw [show (fx_cb .ne 1 0) = true from by decide]
              dsimp only [cond]
              refine fe_s 2 (pc' := 55) (lc' := [(2, .int ((nI i4) + 1)), (0, .ref 0), (1, .int (nI C))]) (stk' := []) (mem' := fm g tp bt a_4 b) (fun _ _ _ => rfl) ?_
              rw [show ((nI i4) + 1 : Int32) = nI (i4 + 1) from by simp only [show (1 : Int32) = nI 1 from rfl, nI_add, fm_mul]]
              exact ih4 (i4 + 1) (by omega) a_4 hD_4
          · rw [show (fx_cb .ne (nI l5) (nI C)) = true from cb_neT (a := l5) (b := C) (by omega) (by omega) (by omega)]
            dsimp only [cond]
            refine fe_s 2 (pc' := 55) (lc' := [(2, .int ((nI i4) + 1)), (0, .ref 0), (1, .int (nI C))]) (stk' := []) (mem' := fm g tp bt a_4 b) (fun _ _ _ => rfl) ?_
            rw [show ((nI i4) + 1 : Int32) = nI (i4 + 1) from by simp only [show (1 : Int32) = nI 1 from rfl, nI_add, fm_mul]]
            exact ih4 (i4 + 1) (by omega) a_4 hD_4
      exact loop4 (NW) 0 (by omega) a_3 hD_3
    | succ r ih3 =>
      intro i3 hi3 a_3 hD_3
      have hl3 : i3 < 21 := by omega
      refine fe_s 2 (pc' := 29) (lc' := [(2, .int (nI i3)), (0, .ref 0), (1, .int (nI C))]) (stk' := [.int 21, .int (nI i3)]) (mem' := fm g tp bt a_3 b) (fun _ _ _ => rfl) ?_
      refine fe_s 1 (pc' := cond (fx_cb .ge (nI i3) 21) 53 32) (lc' := [(2, .int (nI i3)), (0, .ref 0), (1, .int (nI C))]) (stk' := []) (mem' := fm g tp bt a_3 b) (fun _ _ _ => rfl) ?_
      rw [show (fx_cb .ge (nI i3) 21) = false from cb_geF (a := i3) (b := 21) (by omega) (by omega) (by omega)]
      dsimp only [cond]
      refine fe_s 10 (pc' := 46) (lc' := [(2, .int (nI i3)), (0, .ref 0), (1, .int (nI C))]) (stk' := [.int 0, .int ((68 + (21 * (nI C))) + (nI i3)), .ref 1]) (mem' := fm g tp bt a_3 b) (fun _ _ _ => rfl) ?_
      rw [show ((68 + (21 * (nI C))) + (nI i3) : Int32) = nI ((68 + (21 * C)) + i3) from by simp only [show (68 : Int32) = nI 68 from rfl, show (21 : Int32) = nI 21 from rfl, nI_add, fm_mul]]
      refine fe_stI (mem' := fm g tp bt (fm_u a_3 1 (nI ((68 + (21 * C)) + i3) : Int32).toNatClampNeg 0) b) (by rfl) (by rfl) (fx_inN (i := (68 + (21 * C)) + i3) (by omega) (by omega)) (by rfl) ?_
      rw [show Int32.toNatClampNeg (nI ((68 + (21 * C)) + i3)) = (68 + (21 * C)) + i3 from nI_clamp (by omega)]
      obtain ⟨at10, hat10⟩ : ∃ z, z = fm_u a_3 1 ((68 + (21 * C)) + i3) 0 := ⟨_, rfl⟩
      rw [← hat10]
      have hDt10 : fm_D a0 at10 T := by rw [hat10]; exact fm_Dcm hD_3 (by omega) (by omega)
      refine fe_s 2 (pc' := 26) (lc' := [(2, .int ((nI i3) + 1)), (0, .ref 0), (1, .int (nI C))]) (stk' := []) (mem' := fm g tp bt at10 b) (fun _ _ _ => rfl) ?_
      rw [show ((nI i3) + 1 : Int32) = nI (i3 + 1) from by simp only [show (1 : Int32) = nI 1 from rfl, nI_add, fm_mul]]
      exact ih3 (i3 + 1) (by omega) at10 hDt10
  exact loop3 (21) 0 (by omega) at2 hDt2
theorem fr_walks {T : Nat} {W m : Nat} (hB : fm_B a0) (hD : fm_D a0 a T) (hW : W < 8) (el : a 1 (281 + 5 * W) = nI (m + 1)) (hm : m < 20) : ∃ (v : Option Value) (mem' : fx_M), (fun R => ∃ a' : Nat → Nat → Int32, fm_D a0 a' T ∧ R = (none, fm g tp bt a' b)) (v, mem') ∧ fr_T 4 284 [.ref 0, .int (nI W)] (fm g tp bt a b) v mem' := by
  obtain ⟨NC, hNC, eNC⟩ := fm_B_0 hB (i := 0) (n := 10) (by decide) rfl
  obtain ⟨NW, hNW, eNW⟩ := fm_B_0 hB (i := 1) (n := 8) (by decide) rfl
  have hT9 := hD.2.2.2.2.1
  refine fe_meth (F := fun R => ∃ a' : Nat → Nat → Int32, fm_D a0 a' T ∧ R = (none, fm g tp bt a' b)) (M := gk_m284) (by rfl) (by rfl) ?_
  refine fe_s 3 (pc' := 3) (lc' := [(0, .ref 0), (1, .int (nI W))]) (stk' := [.int 0, .int (nI W), .ref 0]) (mem' := fm g tp bt a b) (fun _ _ _ => rfl) ?_
  refine fe_ivV (fr_routeOfX (W := W) (K := 0) (g := g) (tp := tp) (bt := bt) (a := a) (b := b) (by omega) (by omega)) (by omega) (by rfl) (by rfl) (by rfl) (by rfl) (by rfl) (by rfl) ?_
  obtain ⟨l1, hl1, el1⟩ := fm_D_rt hD (i := 318 + 20 * W + 0) (by omega) (by omega)
  rw [el1]
  refine fe_s 4 (pc' := 12) (lc' := [(2, .int (nI l1)), (0, .ref 0), (1, .int (nI W))]) (stk' := [.int (nI W), .ref 1]) (mem' := fm g tp bt a b) (fun _ _ _ => rfl) ?_
  refine fe_ivS fr_walkerRow (by omega) (by rfl) (by rfl) (by rfl) (by rfl) (by rfl) ?_
  rw [show (278 + 5 * (nI W) : Int32) = nI (278 + (5 * W)) from by simp only [show (278 : Int32) = nI 278 from rfl, show (5 : Int32) = nI 5 from rfl, nI_add, fm_mul]]
  refine fe_s 3 (pc' := 18) (lc' := [(2, .int (nI l1)), (0, .ref 0), (1, .int (nI W))]) (stk' := [.int (nI l1), .int ((nI (278 + (5 * W))) + 1), .ref 1]) (mem' := fm g tp bt a b) (fun _ _ _ => rfl) ?_
  rw [show ((nI (278 + (5 * W))) + 1 : Int32) = nI ((278 + (5 * W)) + 1) from by simp only [show (1 : Int32) = nI 1 from rfl, nI_add, fm_mul]]
  refine fe_stI (mem' := fm g tp bt (fm_u a 1 (nI ((278 + (5 * W)) + 1) : Int32).toNatClampNeg (nI l1)) b) (by rfl) (by rfl) (fx_inN (i := (278 + (5 * W)) + 1) (by omega) (by omega)) (by rfl) ?_
  rw [show Int32.toNatClampNeg (nI ((278 + (5 * W)) + 1)) = (278 + (5 * W)) + 1 from nI_clamp (by omega)]
  obtain ⟨at2, hat2⟩ : ∃ z, z = fm_u a 1 ((278 + (5 * W)) + 1) (nI l1) := ⟨_, rfl⟩
  rw [← hat2]
  have kl_t2 : at2 1 (281 + (5 * W)) = nI (m + 1) := by rw [hat2, fm_u1, if_neg (by omega)]; exact el
  have hDt2 : fm_D a0 at2 T := by rw [hat2, show (278 + (5 * W)) + 1 = 279 + 5 * W by omega]; exact fm_Dw1 (X := l1) hD (by omega) (by omega)
  refine fe_s 3 (pc' := 24) (lc' := [(2, .int (nI l1)), (0, .ref 0), (1, .int (nI W))]) (stk' := [.int (nI W), .ref 1]) (mem' := fm g tp bt at2 b) (fun _ _ _ => rfl) ?_
  refine fe_ivS fr_walkerRow (by omega) (by rfl) (by rfl) (by rfl) (by rfl) (by rfl) ?_
  rw [show (278 + 5 * (nI W) : Int32) = nI (278 + (5 * W)) from by simp only [show (278 : Int32) = nI 278 from rfl, show (5 : Int32) = nI 5 from rfl, nI_add, fm_mul]]
  refine fe_s 3 (pc' := 30) (lc' := [(2, .int (nI l1)), (0, .ref 0), (1, .int (nI W))]) (stk' := [.int ((nI (278 + (5 * W))) + 4), .ref 1, .int ((nI (278 + (5 * W))) + 4), .ref 1]) (mem' := fm g tp bt at2 b) (fun _ _ _ => rfl) ?_
  rw [show ((nI (278 + (5 * W))) + 4 : Int32) = nI ((278 + (5 * W)) + 4) from by simp only [show (4 : Int32) = nI 4 from rfl, nI_add, fm_mul]]
  refine fe_ldI (by rfl) (by rfl) (fx_inN (i := (278 + (5 * W)) + 4) (by omega) (by omega)) ?_
  rw [show Int32.toNatClampNeg (nI ((278 + (5 * W)) + 4)) = (278 + (5 * W)) + 4 from nI_clamp (by omega)]
  refine fe_s 2 (pc' := 33) (lc' := [(2, .int (nI l1)), (0, .ref 0), (1, .int (nI W))]) (stk' := [.int ((at2 1 ((278 + (5 * W)) + 4)) + 1), .int (nI ((278 + (5 * W)) + 4)), .ref 1]) (mem' := fm g tp bt at2 b) (fun _ _ _ => rfl) ?_
  refine fe_stI (mem' := fm g tp bt (fm_u at2 1 (nI ((278 + (5 * W)) + 4) : Int32).toNatClampNeg ((at2 1 ((278 + (5 * W)) + 4)) + 1)) b) (by rfl) (by rfl) (fx_inN (i := (278 + (5 * W)) + 4) (by omega) (by omega)) (by rfl) ?_
  rw [show Int32.toNatClampNeg (nI ((278 + (5 * W)) + 4)) = (278 + (5 * W)) + 4 from nI_clamp (by omega)]
  obtain ⟨at3, hat3⟩ : ∃ z, z = fm_u at2 1 ((278 + (5 * W)) + 4) ((at2 1 ((278 + (5 * W)) + 4)) + 1) := ⟨_, rfl⟩
  rw [← hat3]
  have kl_t3 : at3 1 (281 + (5 * W)) = nI (m + 1) := by rw [hat3, fm_u1, if_neg (by omega)]; exact kl_t2
  have hDt3 : fm_D a0 at3 T := by rw [hat3, show (278 + (5 * W)) + 4 = 282 + 5 * W by omega]; exact fm_Dw4 hDt2 (by omega)
  refine fe_s 3 (pc' := 39) (lc' := [(2, .int (nI l1)), (0, .ref 0), (1, .int (nI W))]) (stk' := [.int (nI W), .ref 1]) (mem' := fm g tp bt at3 b) (fun _ _ _ => rfl) ?_
  refine fe_ivS fr_walkerRow (by omega) (by rfl) (by rfl) (by rfl) (by rfl) (by rfl) ?_
  rw [show (278 + 5 * (nI W) : Int32) = nI (278 + (5 * W)) from by simp only [show (278 : Int32) = nI 278 from rfl, show (5 : Int32) = nI 5 from rfl, nI_add, fm_mul]]
  refine fe_s 3 (pc' := 45) (lc' := [(2, .int (nI l1)), (0, .ref 0), (1, .int (nI W))]) (stk' := [.int ((nI (278 + (5 * W))) + 3), .ref 1, .int ((nI (278 + (5 * W))) + 3), .ref 1]) (mem' := fm g tp bt at3 b) (fun _ _ _ => rfl) ?_
  rw [show ((nI (278 + (5 * W))) + 3 : Int32) = nI ((278 + (5 * W)) + 3) from by simp only [show (3 : Int32) = nI 3 from rfl, nI_add, fm_mul]]
  refine fe_ldI (by rfl) (by rfl) (fx_inN (i := (278 + (5 * W)) + 3) (by omega) (by omega)) ?_
  rw [show Int32.toNatClampNeg (nI ((278 + (5 * W)) + 3)) = (278 + (5 * W)) + 3 from nI_clamp (by omega)]
  rw [show at3 1 ((278 + (5 * W)) + 3) = nI (m + 1) from by rw [show (278 + (5 * W)) + 3 = 281 + (5 * W) by omega]; exact kl_t3]
  refine fe_s 2 (pc' := 48) (lc' := [(2, .int (nI l1)), (0, .ref 0), (1, .int (nI W))]) (stk' := [.int ((nI (m + 1)) - 1), .int (nI ((278 + (5 * W)) + 3)), .ref 1]) (mem' := fm g tp bt at3 b) (fun _ _ _ => rfl) ?_
  rw [show ((nI (m + 1)) - 1 : Int32) = nI m from by simp only [show (1 : Int32) = nI 1 from rfl, tg_sub2 (x := m + 1) (y := 1) (by omega), Nat.add_sub_cancel, nI_add, fm_mul]]
  refine fe_stI (mem' := fm g tp bt (fm_u at3 1 (nI ((278 + (5 * W)) + 3) : Int32).toNatClampNeg (nI m)) b) (by rfl) (by rfl) (fx_inN (i := (278 + (5 * W)) + 3) (by omega) (by omega)) (by rfl) ?_
  rw [show Int32.toNatClampNeg (nI ((278 + (5 * W)) + 3)) = (278 + (5 * W)) + 3 from nI_clamp (by omega)]
  obtain ⟨at4, hat4⟩ : ∃ z, z = fm_u at3 1 ((278 + (5 * W)) + 3) (nI m) := ⟨_, rfl⟩
  rw [← hat4]
  have kl_t4 : at4 1 (281 + (5 * W)) = nI m := by rw [hat4, fm_u1, if_pos (by omega)]
  have hDt4 : fm_D a0 at4 T := by rw [hat4, show (278 + (5 * W)) + 3 = 281 + 5 * W by omega]; exact fm_Dw3 (X := m) hDt3 (by omega) (by omega)
  refine fe_s 2 (pc' := 51) (lc' := [(3, .int 0), (2, .int (nI l1)), (0, .ref 0), (1, .int (nI W))]) (stk' := []) (mem' := fm g tp bt at4 b) (fun _ _ _ => rfl) ?_
  have loop5 : ∀ (r i5 : Nat), i5 + r = m → ∀ a_5 : Nat → Nat → Int32, fm_D a0 a_5 T → a_5 1 (281 + (5 * W)) = nI m → fe_R 3 gk_m284 51 [(3, .int (nI i5)), (2, .int (nI l1)), (0, .ref 0), (1, .int (nI W))] [] (fm g tp bt a_5 b) (fun R => ∃ a' : Nat → Nat → Int32, fm_D a0 a' T ∧ R = (none, fm g tp bt a' b)) := by
    intro r
    induction r with
    | zero =>
      intro i5 hi5 a_5 hD_5 knl_5
      obtain rfl : m = i5 := by omega
      refine fe_s 3 (pc' := 54) (lc' := [(3, .int (nI m)), (2, .int (nI l1)), (0, .ref 0), (1, .int (nI W))]) (stk' := [.int (nI W), .ref 0, .int (nI m)]) (mem' := fm g tp bt a_5 b) (fun _ _ _ => rfl) ?_
      refine fe_ivV (fr_leftOfX (V := W) (g := g) (tp := tp) (bt := bt) (a := a_5) (b := b) (by omega)) (by omega) (by rfl) (by rfl) (by rfl) (by rfl) (by rfl) (by rfl) ?_
      rw [knl_5]
      refine fe_s 1 (pc' := cond (fx_cb .ge (nI m) (nI m)) 89 60) (lc' := [(3, .int (nI m)), (2, .int (nI l1)), (0, .ref 0), (1, .int (nI W))]) (stk' := []) (mem' := fm g tp bt a_5 b) (fun _ _ _ => rfl) ?_
      rw [show (fx_cb .ge (nI m) (nI m)) = true from cb_geT (a := m) (b := m) (by omega) (by omega) (by omega)]
      dsimp only [cond]
      refine fe_s 2 (pc' := 91) (lc' := [(3, .int (nI m)), (2, .int (nI l1)), (0, .ref 0), (1, .int (nI W))]) (stk' := [.int (nI l1), .ref 0]) (mem' := fm g tp bt a_5 b) (fun _ _ _ => rfl) ?_
      obtain ⟨v7, z8, hv7⟩ := fq_isIce (C := l1) (g := g) (tp := tp) (bt := bt) (a := a_5) (b := b) (fm_D_t hB hD_5) (by omega)
      refine fe_ivV hv7 (by omega) (by rfl) (by rfl) (by rfl) (by rfl) (by rfl) (by rfl) ?_
      rcases z8 with rfl | rfl
      · refine fe_s 1 (pc' := cond (fx_cb .eq 0 0) 131 97) (lc' := [(3, .int (nI m)), (2, .int (nI l1)), (0, .ref 0), (1, .int (nI W))]) (stk' := []) (mem' := fm g tp bt a_5 b) (fun _ _ _ => rfl) ?_
        rw [show (fx_cb .eq 0 0) = true from by decide]
        dsimp only [cond]
        exact fe_ret ⟨_, hD_5, rfl⟩ (by rfl) (by rfl) (by rfl)
      · refine fe_s 1 (pc' := cond (fx_cb .eq 1 0) 131 97) (lc' := [(3, .int (nI m)), (2, .int (nI l1)), (0, .ref 0), (1, .int (nI W))]) (stk' := []) (mem' := fm g tp bt a_5 b) (fun _ _ _ => rfl) ?_
        rw [show (fx_cb .eq 1 0) = false from by decide]
        dsimp only [cond]
        refine fe_s 2 (pc' := 99) (lc' := [(3, .int (nI m)), (2, .int (nI l1)), (0, .ref 0), (1, .int (nI W))]) (stk' := [.int (nI l1), .ref 0]) (mem' := fm g tp bt a_5 b) (fun _ _ _ => rfl) ?_
        obtain ⟨v9, z10, hv9⟩ := fq_isBroken (C := l1) (g := g) (tp := tp) (bt := bt) (a := a_5) (b := b) (by omega)
        refine fe_ivV hv9 (by omega) (by rfl) (by rfl) (by rfl) (by rfl) (by rfl) (by rfl) ?_
        rcases z10 with rfl | rfl
        · refine fe_s 1 (pc' := cond (fx_cb .ne 0 0) 131 105) (lc' := [(3, .int (nI m)), (2, .int (nI l1)), (0, .ref 0), (1, .int (nI W))]) (stk' := []) (mem' := fm g tp bt a_5 b) (fun _ _ _ => rfl) ?_
          rw [show (fx_cb .ne 0 0) = false from by decide]
          dsimp only [cond]
          refine fe_s 10 (pc' := 121) (lc' := [(3, .int (nI m)), (2, .int (nI l1)), (0, .ref 0), (1, .int (nI W))]) (stk' := [.int 5, .ref 1, .int (68 + (21 * (nI l1))), .ref 1]) (mem' := fm g tp bt a_5 b) (fun _ _ _ => rfl) ?_
          rw [show (68 + (21 * (nI l1)) : Int32) = nI (68 + (21 * l1)) from by simp only [show (68 : Int32) = nI 68 from rfl, show (21 : Int32) = nI 21 from rfl, nI_add, fm_mul]]
          refine fe_ldI (by rfl) (by rfl) (fx_inN (i := 5) (by omega) (by omega)) ?_
          rw [show Int32.toNatClampNeg (5) = 5 from rfl]
          rw [show a_5 1 5 = nI T from hD_5.2.2.2.1]
          refine fe_s 4 (pc' := 127) (lc' := [(3, .int (nI m)), (2, .int (nI l1)), (0, .ref 0), (1, .int (nI W))]) (stk' := [.int ((nI (68 + (21 * l1))) + ((nI T) - (nI T) / 21 * 21)), .ref 1, .int ((nI (68 + (21 * l1))) + ((nI T) - (nI T) / 21 * 21)), .ref 1]) (mem' := fm g tp bt a_5 b) (fun _ _ _ => rfl) ?_
          rw [show ((nI (68 + (21 * l1))) + ((nI T) - (nI T) / 21 * 21) : Int32) = nI ((68 + (21 * l1)) + (T % 21)) from by simp only [(show ((nI T) - (nI T) / 21 * 21 : Int32) = nI (T % 21) from pk_rem (a := T) (d := 21) (by omega) (by decide) (by decide)), nI_add, fm_mul]]
          refine fe_ldI (by rfl) (by rfl) (fx_inN (i := (68 + (21 * l1)) + (T % 21)) (by omega) (by omega)) ?_
          rw [show Int32.toNatClampNeg (nI ((68 + (21 * l1)) + (T % 21))) = (68 + (21 * l1)) + (T % 21) from nI_clamp (by omega)]
          refine fe_s 2 (pc' := 130) (lc' := [(3, .int (nI m)), (2, .int (nI l1)), (0, .ref 0), (1, .int (nI W))]) (stk' := [.int ((a_5 1 ((68 + (21 * l1)) + (T % 21))) + 1), .int (nI ((68 + (21 * l1)) + (T % 21))), .ref 1]) (mem' := fm g tp bt a_5 b) (fun _ _ _ => rfl) ?_
          refine fe_stI (mem' := fm g tp bt (fm_u a_5 1 (nI ((68 + (21 * l1)) + (T % 21)) : Int32).toNatClampNeg ((a_5 1 ((68 + (21 * l1)) + (T % 21))) + 1)) b) (by rfl) (by rfl) (fx_inN (i := (68 + (21 * l1)) + (T % 21)) (by omega) (by omega)) (by rfl) ?_
          rw [show Int32.toNatClampNeg (nI ((68 + (21 * l1)) + (T % 21))) = (68 + (21 * l1)) + (T % 21) from nI_clamp (by omega)]
          obtain ⟨at11, hat11⟩ : ∃ z, z = fm_u a_5 1 ((68 + (21 * l1)) + (T % 21)) ((a_5 1 ((68 + (21 * l1)) + (T % 21))) + 1) := ⟨_, rfl⟩
          rw [← hat11]
          have kl_t11 : at11 1 (281 + (5 * W)) = nI m := by rw [hat11, fm_u1, if_neg (by omega)]; exact knl_5
          have hDt11 : fm_D a0 at11 T := by rw [hat11]; exact fm_Dcm hD_5 (by omega) (by omega)
          exact fe_ret ⟨_, hDt11, rfl⟩ (by rfl) (by rfl) (by rfl)
        · refine fe_s 1 (pc' := cond (fx_cb .ne 1 0) 131 105) (lc' := [(3, .int (nI m)), (2, .int (nI l1)), (0, .ref 0), (1, .int (nI W))]) (stk' := []) (mem' := fm g tp bt a_5 b) (fun _ _ _ => rfl) ?_
          rw [show (fx_cb .ne 1 0) = true from by decide]
          dsimp only [cond]
          exact fe_ret ⟨_, hD_5, rfl⟩ (by rfl) (by rfl) (by rfl)
    | succ r ih5 =>
      intro i5 hi5 a_5 hD_5 knl_5
      have hl5 : i5 < m := by omega
      refine fe_s 3 (pc' := 54) (lc' := [(3, .int (nI i5)), (2, .int (nI l1)), (0, .ref 0), (1, .int (nI W))]) (stk' := [.int (nI W), .ref 0, .int (nI i5)]) (mem' := fm g tp bt a_5 b) (fun _ _ _ => rfl) ?_
      refine fe_ivV (fr_leftOfX (V := W) (g := g) (tp := tp) (bt := bt) (a := a_5) (b := b) (by omega)) (by omega) (by rfl) (by rfl) (by rfl) (by rfl) (by rfl) (by rfl) ?_
      rw [knl_5]
      refine fe_s 1 (pc' := cond (fx_cb .ge (nI i5) (nI m)) 89 60) (lc' := [(3, .int (nI i5)), (2, .int (nI l1)), (0, .ref 0), (1, .int (nI W))]) (stk' := []) (mem' := fm g tp bt a_5 b) (fun _ _ _ => rfl) ?_
      rw [show (fx_cb .ge (nI i5) (nI m)) = false from cb_geF (a := i5) (b := m) (by omega) (by omega) (by omega)]
      dsimp only [cond]
      refine fe_s 14 (pc' := 79) (lc' := [(3, .int (nI i5)), (2, .int (nI l1)), (0, .ref 0), (1, .int (nI W))]) (stk' := [.int ((nI i5) + 1), .int (nI W), .ref 0, .int ((318 + (20 * (nI W))) + (nI i5)), .ref 1]) (mem' := fm g tp bt a_5 b) (fun _ _ _ => rfl) ?_
      rw [show ((nI i5) + 1 : Int32) = nI (i5 + 1) from by simp only [show (1 : Int32) = nI 1 from rfl, nI_add, fm_mul]]
      rw [show ((318 + (20 * (nI W))) + (nI i5) : Int32) = nI ((318 + (20 * W)) + i5) from by simp only [show (318 : Int32) = nI 318 from rfl, show (20 : Int32) = nI 20 from rfl, nI_add, fm_mul]]
      refine fe_ivV (fr_routeOfX (W := W) (K := i5 + 1) (g := g) (tp := tp) (bt := bt) (a := a_5) (b := b) (by omega) (by omega)) (by omega) (by rfl) (by rfl) (by rfl) (by rfl) (by rfl) (by rfl) ?_
      obtain ⟨l13, hl13, el13⟩ := fm_D_rt hD_5 (i := 318 + 20 * W + (i5 + 1)) (by omega) (by omega)
      rw [el13]
      refine fe_stI (mem' := fm g tp bt (fm_u a_5 1 (nI ((318 + (20 * W)) + i5) : Int32).toNatClampNeg (nI l13)) b) (by rfl) (by rfl) (fx_inN (i := (318 + (20 * W)) + i5) (by omega) (by omega)) (by rfl) ?_
      rw [show Int32.toNatClampNeg (nI ((318 + (20 * W)) + i5)) = (318 + (20 * W)) + i5 from nI_clamp (by omega)]
      obtain ⟨at14, hat14⟩ : ∃ z, z = fm_u a_5 1 ((318 + (20 * W)) + i5) (nI l13) := ⟨_, rfl⟩
      rw [← hat14]
      have kl_t14 : at14 1 (281 + (5 * W)) = nI m := by rw [hat14, fm_u1, if_neg (by omega)]; exact knl_5
      have hDt14 : fm_D a0 at14 T := by rw [hat14]; exact fm_Drt (X := l13) hD_5 (by omega) (by omega) (by omega)
      refine fe_s 2 (pc' := 51) (lc' := [(3, .int ((nI i5) + 1)), (2, .int (nI l1)), (0, .ref 0), (1, .int (nI W))]) (stk' := []) (mem' := fm g tp bt at14 b) (fun _ _ _ => rfl) ?_
      rw [show ((nI i5) + 1 : Int32) = nI (i5 + 1) from by simp only [show (1 : Int32) = nI 1 from rfl, nI_add, fm_mul]]
      exact ih5 (i5 + 1) (by omega) at14 hDt14 kl_t14
  exact loop5 (m) 0 (by omega) at4 hDt4 kl_t4
end F4900_walk
