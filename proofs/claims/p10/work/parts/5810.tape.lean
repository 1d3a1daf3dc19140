/-! ===== the tape: feed of both sides, exact ===== -/
/-- a byte of four -/
def tb (v k : Int32) : Int32 := ((v >>> (k &&& 31)).toInt8.toInt32).toInt8.toInt32
/-- four bytes put behind s -/
def t4 (f : Nat → Int32) (s : Nat) (v : Int32) : Nat → Int32 := upd (upd (upd (upd f s (tb v 24)) (s + 1) (tb v 16)) (s + 2) (tb v 8)) (s + 3) (tb v 0)
def t20 (f : Nat → Int32) (s : Nat) (v0 v1 v2 v3 v4 : Int32) : Nat → Int32 := t4 (t4 (t4 (t4 (t4 f s v0) (s + 4) v1) (s + 8) v2) (s + 12) v3) (s + 16) v4
theorem upd_eq {f h : Nat → Int32} {s k : Nat} {x : Int32} (e : ∀ i, i < s → f i = h i) (hk : k ≤ s) : ∀ i, i < s + 1 → k = s → upd f k x i = upd h k x i := by
  intro i hi hks
  unfold upd
  by_cases z : i = k
  · rw [if_pos z, if_pos z]
  · rw [if_neg z, if_neg z]
    exact e i (by omega)
theorem t4_eq {f h : Nat → Int32} {s : Nat} {v : Int32} (e : ∀ i, i < s → f i = h i) : ∀ i, i < s + 4 → t4 f s v i = t4 h s v i := by
  have e1 := fun i hi => upd_eq (x := tb v 24) e (Nat.le_refl s) i hi rfl
  have e2 := fun i hi => upd_eq (x := tb v 16) e1 (Nat.le_refl (s + 1)) i hi rfl
  have e3 := fun i hi => upd_eq (x := tb v 8) e2 (Nat.le_refl (s + 2)) i hi rfl
  exact fun i hi => upd_eq (x := tb v 0) e3 (Nat.le_refl (s + 3)) i hi rfl
theorem t20_eq {f h : Nat → Int32} {s : Nat} {v0 v1 v2 v3 v4 : Int32} (e : ∀ i, i < s → f i = h i) : ∀ i, i < s + 20 → t20 f s v0 v1 v2 v3 v4 i = t20 h s v0 v1 v2 v3 v4 i := t4_eq (t4_eq (t4_eq (t4_eq (t4_eq e))))
theorem tb_bd (v k : Int32) : (-128 : Int) ≤ (tb v k).toInt ∧ (tb v k).toInt ≤ 127 := rk_s_i2b _
theorem t4_bd {f : Nat → Int32} {s n : Nat} {v : Int32} (e : ∀ i, i < n → (-128 : Int) ≤ (f i).toInt ∧ (f i).toInt ≤ 127) : ∀ i, i < n → (-128 : Int) ≤ (t4 f s v i).toInt ∧ (t4 f s v i).toInt ≤ 127 := by
  intro i hi
  unfold t4 upd
  split
  · exact tb_bd _ _
  · split
    · exact tb_bd _ _
    · split
      · exact tb_bd _ _
      · split
        · exact tb_bd _ _
        · exact e i hi
theorem t20_bd {f : Nat → Int32} {s n : Nat} {v0 v1 v2 v3 v4 : Int32} (e : ∀ i, i < n → (-128 : Int) ≤ (f i).toInt ∧ (f i).toInt ≤ 127) : ∀ i, i < n → (-128 : Int) ≤ (t20 f s v0 v1 v2 v3 v4 i).toInt ∧ (t20 f s v0 v1 v2 v3 v4 i).toInt ≤ 127 := t4_bd (t4_bd (t4_bd (t4_bd (t4_bd e))))
section TAC
variable {g : Nat → Nat → Int32} {l : Nat → Nat → Int64} {a : Nat → Nat → Int32} {b : Nat → Nat → Int64} {R : fx_M} {s : Nat}
theorem ha_take {v : Int32} (h2 : g 9 2 = nI s) (hs : s + 4 ≤ 900) : ∃ g' a' : Nat → Nat → Int32, hr_T 1 101 [.ref 9, .int v] (cm g l a b R) none (cm g' l a' b R) ∧ g' 9 2 = nI (s + 4) ∧ a' 10 = t4 (a 10) s v ∧ (∀ j, j ≠ 9 → g' j = g j) ∧ ∀ j, j ≠ 10 → a' j = a j := by
  refine ⟨fm_u (fm_u (fm_u (fm_u g 9 2 (nI (s + 1))) 9 2 (nI (s + 2))) 9 2 (nI (s + 3))) 9 2 (nI (s + 4)), fm_u (fm_u (fm_u (fm_u a 10 s (tb v 24)) 10 (s + 1) (tb v 16)) 10 (s + 2) (tb v 8)) 10 (s + 3) (tb v 0), hr_meth (by rfl) (by rfl) ?_, rfl, rfl, fun j hj => by rw [fm_un hj, fm_un hj, fm_un hj, fm_un hj], fun j hj => by rw [fm_un hj, fm_un hj, fm_un hj, fm_un hj]⟩
  obtain ⟨w0, e0⟩ : ∃ w, tb v 24 = w := ⟨_, rfl⟩
  obtain ⟨w1, e1⟩ : ∃ w, tb v 16 = w := ⟨_, rfl⟩
  obtain ⟨w2, e2⟩ : ∃ w, tb v 8 = w := ⟨_, rfl⟩
  obtain ⟨w3, e3⟩ : ∃ w, tb v 0 = w := ⟨_, rfl⟩
  rw [e0, e1, e2, e3]
  refine hr_s 3 (pc' := 4) (lc' := [(2, .int 24), (0, .ref 9), (1, .int v)]) (stk' := [.int 24]) (mem' := cm g l a b R) (by intro _ _ _; eq_refl) ?_
  refine hr_s 1 (pc' := cond (fx_cb .lt 24 0) 46 7) (lc' := [(2, .int 24), (0, .ref 9), (1, .int v)]) (stk' := []) (mem' := cm g l a b R) (by intro _ _ _; eq_refl) ?_
  rw [show fx_cb .lt 24 0 = false from by decide]
  dsimp only [cond]
  refine hr_s 3 (pc' := 14) (lc' := [(2, .int 24), (0, .ref 9), (1, .int v)]) (stk' := [.int 900, .int (g 9 2)]) (mem' := cm g l a b R) (by intro _ _ _; eq_refl) ?_
  rw [h2]
  refine hr_s 1 (pc' := cond (fx_cb .ge (nI s) 900) 46 17) (lc' := [(2, .int 24), (0, .ref 9), (1, .int v)]) (stk' := []) (mem' := cm g l a b R) (by intro _ _ _; eq_refl) ?_
  rw [show fx_cb .ge (nI s) 900 = false from cb_geF (a := s) (b := 900) (by omega) (by omega) (by omega)]
  dsimp only [cond]
  refine hr_s 8 (pc' := 29) (lc' := [(2, .int 24), (0, .ref 9), (1, .int v)]) (stk' := [.int ((v >>> ((24 : Int32) &&& 31)).toInt8.toInt32), .int (g 9 2), .ref 10]) (mem' := cm g l a b R) (by intro _ _ _; eq_refl) ?_
  rw [h2]
  refine hr_stB (mem' := cm g l (fm_u a 10 (nI s : Int32).toNatClampNeg (((v >>> ((24 : Int32) &&& 31)).toInt8.toInt32).toInt8.toInt32)) b R) (by rfl) (by rfl) (fx_inN (i := s) (by omega) (by omega)) cm_sb10 ?_
  rw [show Int32.toNatClampNeg (nI s) = s from nI_clamp (by omega), show ((v >>> ((24 : Int32) &&& 31)).toInt8.toInt32).toInt8.toInt32 = w0 from e0]
  refine hr_s 5 (pc' := 37) (lc' := [(2, .int 24), (0, .ref 9), (1, .int v)]) (stk' := [.int (g 9 2 + 1), .ref 9]) (mem' := cm g l (fm_u a 10 s w0) b R) (by intro _ _ _; eq_refl) ?_
  rw [h2]
  rw [show (nI s + 1 : Int32) = nI (s + 1) from by simp only [show (1 : Int32) = nI 1 from rfl, nI_add]]
  refine hr_s 4 (pc' := 4) (lc' := [(2, .int 16), (0, .ref 9), (1, .int v)]) (stk' := [.int 16]) (mem' := cm (fm_u g 9 2 (nI (s + 1))) l (fm_u a 10 s w0) b R) (by intro _ _ _; eq_refl) ?_
  refine hr_s 1 (pc' := cond (fx_cb .lt 16 0) 46 7) (lc' := [(2, .int 16), (0, .ref 9), (1, .int v)]) (stk' := []) (mem' := cm (fm_u g 9 2 (nI (s + 1))) l (fm_u a 10 s w0) b R) (by intro _ _ _; eq_refl) ?_
  rw [show fx_cb .lt 16 0 = false from by decide]
  dsimp only [cond]
  refine hr_s 3 (pc' := 14) (lc' := [(2, .int 16), (0, .ref 9), (1, .int v)]) (stk' := [.int 900, .int (nI (s + 1))]) (mem' := cm (fm_u g 9 2 (nI (s + 1))) l (fm_u a 10 s w0) b R) (by intro _ _ _; eq_refl) ?_
  refine hr_s 1 (pc' := cond (fx_cb .ge (nI (s + 1)) 900) 46 17) (lc' := [(2, .int 16), (0, .ref 9), (1, .int v)]) (stk' := []) (mem' := cm (fm_u g 9 2 (nI (s + 1))) l (fm_u a 10 s w0) b R) (by intro _ _ _; eq_refl) ?_
  rw [show fx_cb .ge (nI (s + 1)) 900 = false from cb_geF (a := (s + 1)) (b := 900) (by omega) (by omega) (by omega)]
  dsimp only [cond]
  refine hr_s 8 (pc' := 29) (lc' := [(2, .int 16), (0, .ref 9), (1, .int v)]) (stk' := [.int ((v >>> ((16 : Int32) &&& 31)).toInt8.toInt32), .int (nI (s + 1)), .ref 10]) (mem' := cm (fm_u g 9 2 (nI (s + 1))) l (fm_u a 10 s w0) b R) (by intro _ _ _; eq_refl) ?_
  refine hr_stB (mem' := cm (fm_u g 9 2 (nI (s + 1))) l (fm_u (fm_u a 10 s w0) 10 (nI (s + 1) : Int32).toNatClampNeg (((v >>> ((16 : Int32) &&& 31)).toInt8.toInt32).toInt8.toInt32)) b R) (by rfl) (by rfl) (fx_inN (i := (s + 1)) (by omega) (by omega)) cm_sb10 ?_
  rw [show Int32.toNatClampNeg (nI (s + 1)) = (s + 1) from nI_clamp (by omega), show ((v >>> ((16 : Int32) &&& 31)).toInt8.toInt32).toInt8.toInt32 = w1 from e1]
  refine hr_s 5 (pc' := 37) (lc' := [(2, .int 16), (0, .ref 9), (1, .int v)]) (stk' := [.int (nI (s + 1) + 1), .ref 9]) (mem' := cm (fm_u g 9 2 (nI (s + 1))) l (fm_u (fm_u a 10 s w0) 10 (s + 1) w1) b R) (by intro _ _ _; eq_refl) ?_
  rw [show (nI (s + 1) + 1 : Int32) = nI (s + 2) from by simp only [show (1 : Int32) = nI 1 from rfl, nI_add]]
  refine hr_s 4 (pc' := 4) (lc' := [(2, .int 8), (0, .ref 9), (1, .int v)]) (stk' := [.int 8]) (mem' := cm (fm_u (fm_u g 9 2 (nI (s + 1))) 9 2 (nI (s + 2))) l (fm_u (fm_u a 10 s w0) 10 (s + 1) w1) b R) (by intro _ _ _; eq_refl) ?_
  refine hr_s 1 (pc' := cond (fx_cb .lt 8 0) 46 7) (lc' := [(2, .int 8), (0, .ref 9), (1, .int v)]) (stk' := []) (mem' := cm (fm_u (fm_u g 9 2 (nI (s + 1))) 9 2 (nI (s + 2))) l (fm_u (fm_u a 10 s w0) 10 (s + 1) w1) b R) (by intro _ _ _; eq_refl) ?_
  rw [show fx_cb .lt 8 0 = false from by decide]
  dsimp only [cond]
  refine hr_s 3 (pc' := 14) (lc' := [(2, .int 8), (0, .ref 9), (1, .int v)]) (stk' := [.int 900, .int (nI (s + 2))]) (mem' := cm (fm_u (fm_u g 9 2 (nI (s + 1))) 9 2 (nI (s + 2))) l (fm_u (fm_u a 10 s w0) 10 (s + 1) w1) b R) (by intro _ _ _; eq_refl) ?_
  refine hr_s 1 (pc' := cond (fx_cb .ge (nI (s + 2)) 900) 46 17) (lc' := [(2, .int 8), (0, .ref 9), (1, .int v)]) (stk' := []) (mem' := cm (fm_u (fm_u g 9 2 (nI (s + 1))) 9 2 (nI (s + 2))) l (fm_u (fm_u a 10 s w0) 10 (s + 1) w1) b R) (by intro _ _ _; eq_refl) ?_
  rw [show fx_cb .ge (nI (s + 2)) 900 = false from cb_geF (a := (s + 2)) (b := 900) (by omega) (by omega) (by omega)]
  dsimp only [cond]
  refine hr_s 8 (pc' := 29) (lc' := [(2, .int 8), (0, .ref 9), (1, .int v)]) (stk' := [.int ((v >>> ((8 : Int32) &&& 31)).toInt8.toInt32), .int (nI (s + 2)), .ref 10]) (mem' := cm (fm_u (fm_u g 9 2 (nI (s + 1))) 9 2 (nI (s + 2))) l (fm_u (fm_u a 10 s w0) 10 (s + 1) w1) b R) (by intro _ _ _; eq_refl) ?_
  refine hr_stB (mem' := cm (fm_u (fm_u g 9 2 (nI (s + 1))) 9 2 (nI (s + 2))) l (fm_u (fm_u (fm_u a 10 s w0) 10 (s + 1) w1) 10 (nI (s + 2) : Int32).toNatClampNeg (((v >>> ((8 : Int32) &&& 31)).toInt8.toInt32).toInt8.toInt32)) b R) (by rfl) (by rfl) (fx_inN (i := (s + 2)) (by omega) (by omega)) cm_sb10 ?_
  rw [show Int32.toNatClampNeg (nI (s + 2)) = (s + 2) from nI_clamp (by omega), show ((v >>> ((8 : Int32) &&& 31)).toInt8.toInt32).toInt8.toInt32 = w2 from e2]
  refine hr_s 5 (pc' := 37) (lc' := [(2, .int 8), (0, .ref 9), (1, .int v)]) (stk' := [.int (nI (s + 2) + 1), .ref 9]) (mem' := cm (fm_u (fm_u g 9 2 (nI (s + 1))) 9 2 (nI (s + 2))) l (fm_u (fm_u (fm_u a 10 s w0) 10 (s + 1) w1) 10 (s + 2) w2) b R) (by intro _ _ _; eq_refl) ?_
  rw [show (nI (s + 2) + 1 : Int32) = nI (s + 3) from by simp only [show (1 : Int32) = nI 1 from rfl, nI_add]]
  refine hr_s 4 (pc' := 4) (lc' := [(2, .int 0), (0, .ref 9), (1, .int v)]) (stk' := [.int 0]) (mem' := cm (fm_u (fm_u (fm_u g 9 2 (nI (s + 1))) 9 2 (nI (s + 2))) 9 2 (nI (s + 3))) l (fm_u (fm_u (fm_u a 10 s w0) 10 (s + 1) w1) 10 (s + 2) w2) b R) (by intro _ _ _; eq_refl) ?_
  refine hr_s 1 (pc' := cond (fx_cb .lt 0 0) 46 7) (lc' := [(2, .int 0), (0, .ref 9), (1, .int v)]) (stk' := []) (mem' := cm (fm_u (fm_u (fm_u g 9 2 (nI (s + 1))) 9 2 (nI (s + 2))) 9 2 (nI (s + 3))) l (fm_u (fm_u (fm_u a 10 s w0) 10 (s + 1) w1) 10 (s + 2) w2) b R) (by intro _ _ _; eq_refl) ?_
  rw [show fx_cb .lt 0 0 = false from by decide]
  dsimp only [cond]
  refine hr_s 3 (pc' := 14) (lc' := [(2, .int 0), (0, .ref 9), (1, .int v)]) (stk' := [.int 900, .int (nI (s + 3))]) (mem' := cm (fm_u (fm_u (fm_u g 9 2 (nI (s + 1))) 9 2 (nI (s + 2))) 9 2 (nI (s + 3))) l (fm_u (fm_u (fm_u a 10 s w0) 10 (s + 1) w1) 10 (s + 2) w2) b R) (by intro _ _ _; eq_refl) ?_
  refine hr_s 1 (pc' := cond (fx_cb .ge (nI (s + 3)) 900) 46 17) (lc' := [(2, .int 0), (0, .ref 9), (1, .int v)]) (stk' := []) (mem' := cm (fm_u (fm_u (fm_u g 9 2 (nI (s + 1))) 9 2 (nI (s + 2))) 9 2 (nI (s + 3))) l (fm_u (fm_u (fm_u a 10 s w0) 10 (s + 1) w1) 10 (s + 2) w2) b R) (by intro _ _ _; eq_refl) ?_
  rw [show fx_cb .ge (nI (s + 3)) 900 = false from cb_geF (a := (s + 3)) (b := 900) (by omega) (by omega) (by omega)]
  dsimp only [cond]
  refine hr_s 8 (pc' := 29) (lc' := [(2, .int 0), (0, .ref 9), (1, .int v)]) (stk' := [.int ((v >>> ((0 : Int32) &&& 31)).toInt8.toInt32), .int (nI (s + 3)), .ref 10]) (mem' := cm (fm_u (fm_u (fm_u g 9 2 (nI (s + 1))) 9 2 (nI (s + 2))) 9 2 (nI (s + 3))) l (fm_u (fm_u (fm_u a 10 s w0) 10 (s + 1) w1) 10 (s + 2) w2) b R) (by intro _ _ _; eq_refl) ?_
  refine hr_stB (mem' := cm (fm_u (fm_u (fm_u g 9 2 (nI (s + 1))) 9 2 (nI (s + 2))) 9 2 (nI (s + 3))) l (fm_u (fm_u (fm_u (fm_u a 10 s w0) 10 (s + 1) w1) 10 (s + 2) w2) 10 (nI (s + 3) : Int32).toNatClampNeg (((v >>> ((0 : Int32) &&& 31)).toInt8.toInt32).toInt8.toInt32)) b R) (by rfl) (by rfl) (fx_inN (i := (s + 3)) (by omega) (by omega)) cm_sb10 ?_
  rw [show Int32.toNatClampNeg (nI (s + 3)) = (s + 3) from nI_clamp (by omega), show ((v >>> ((0 : Int32) &&& 31)).toInt8.toInt32).toInt8.toInt32 = w3 from e3]
  refine hr_s 5 (pc' := 37) (lc' := [(2, .int 0), (0, .ref 9), (1, .int v)]) (stk' := [.int (nI (s + 3) + 1), .ref 9]) (mem' := cm (fm_u (fm_u (fm_u g 9 2 (nI (s + 1))) 9 2 (nI (s + 2))) 9 2 (nI (s + 3))) l (fm_u (fm_u (fm_u (fm_u a 10 s w0) 10 (s + 1) w1) 10 (s + 2) w2) 10 (s + 3) w3) b R) (by intro _ _ _; eq_refl) ?_
  rw [show (nI (s + 3) + 1 : Int32) = nI (s + 4) from by simp only [show (1 : Int32) = nI 1 from rfl, nI_add]]
  refine hr_s 4 (pc' := 4) (lc' := [(2, .int (-8)), (0, .ref 9), (1, .int v)]) (stk' := [.int (-8)]) (mem' := cm (fm_u (fm_u (fm_u (fm_u g 9 2 (nI (s + 1))) 9 2 (nI (s + 2))) 9 2 (nI (s + 3))) 9 2 (nI (s + 4))) l (fm_u (fm_u (fm_u (fm_u a 10 s w0) 10 (s + 1) w1) 10 (s + 2) w2) 10 (s + 3) w3) b R) (by intro _ _ _; eq_refl) ?_
  refine hr_s 1 (pc' := cond (fx_cb .lt (-8) 0) 46 7) (lc' := [(2, .int (-8)), (0, .ref 9), (1, .int v)]) (stk' := []) (mem' := cm (fm_u (fm_u (fm_u (fm_u g 9 2 (nI (s + 1))) 9 2 (nI (s + 2))) 9 2 (nI (s + 3))) 9 2 (nI (s + 4))) l (fm_u (fm_u (fm_u (fm_u a 10 s w0) 10 (s + 1) w1) 10 (s + 2) w2) 10 (s + 3) w3) b R) (by intro _ _ _; eq_refl) ?_
  rw [show fx_cb .lt (-8) 0 = true from by decide]
  dsimp only [cond]
  exact hr_ret (by rfl) (by rfl) (by rfl)
theorem ha_roomT (h2 : g 9 2 = nI s) (hs : s ≤ 880) : hr_T 1 100 [.ref 9] (cm g l a b R) (some (.int 1)) (cm g l a b R) := by
  refine hr_meth (by rfl) (by rfl) ?_
  refine hr_s 5 (pc' := 10) (lc' := [(0, .ref 9)]) (stk' := [.int 900, .int (g 9 2 + 20)]) (mem' := cm g l a b R) (by intro _ _ _; eq_refl) ?_
  rw [h2, show (nI s + 20 : Int32) = nI (s + 20) from by simp only [show (20 : Int32) = nI 20 from rfl, nI_add]]
  refine hr_s 1 (pc' := cond (fx_cb .gt (nI (s + 20)) 900) 17 13) (lc' := [(0, .ref 9)]) (stk' := []) (mem' := cm g l a b R) (by intro _ _ _; eq_refl) ?_
  rw [show fx_cb .gt (nI (s + 20)) 900 = false from cb_gtF (a := s + 20) (b := 900) (by omega) (by omega) (by omega)]
  dsimp only [cond]
  refine hr_s 2 (pc' := 18) (lc' := [(0, .ref 9)]) (stk' := [.int 1]) (mem' := cm g l a b R) (by intro _ _ _; eq_refl) ?_
  exact hr_ret (by rfl) (by rfl) (by rfl)
theorem ha_roomF (h2 : g 9 2 = nI s) (hs : 880 < s) (hs9 : s ≤ 900) : hr_T 1 100 [.ref 9] (cm g l a b R) (some (.int 0)) (cm g l a b R) := by
  refine hr_meth (by rfl) (by rfl) ?_
  refine hr_s 5 (pc' := 10) (lc' := [(0, .ref 9)]) (stk' := [.int 900, .int (g 9 2 + 20)]) (mem' := cm g l a b R) (by intro _ _ _; eq_refl) ?_
  rw [h2, show (nI s + 20 : Int32) = nI (s + 20) from by simp only [show (20 : Int32) = nI 20 from rfl, nI_add]]
  refine hr_s 1 (pc' := cond (fx_cb .gt (nI (s + 20)) 900) 17 13) (lc' := [(0, .ref 9)]) (stk' := []) (mem' := cm g l a b R) (by intro _ _ _; eq_refl) ?_
  rw [show fx_cb .gt (nI (s + 20)) 900 = true from cb_gtT (a := s + 20) (b := 900) (by omega) (by omega) (by omega)]
  dsimp only [cond]
  refine hr_s 1 (pc' := 18) (lc' := [(0, .ref 9)]) (stk' := [.int 0]) (mem' := cm g l a b R) (by intro _ _ _; eq_refl) ?_
  exact hr_ret (by rfl) (by rfl) (by rfl)
theorem ha_feed {v0 v1 v2 v3 v4 : Int32} (h2 : g 9 2 = nI s) (hs : s ≤ 880) : ∃ g' a' : Nat → Nat → Int32, hr_T 2 134 [.ref 0, .int v0, .int v1, .int v2, .int v3, .int v4] (cm g l a b R) (some (.int (nI (s + 20)))) (cm g' l a' b R) ∧ g' 9 2 = nI (s + 20) ∧ a' 10 = t20 (a 10) s v0 v1 v2 v3 v4 ∧ (∀ j, j ≠ 9 → g' j = g j) ∧ ∀ j, j ≠ 10 → a' j = a j := by
  obtain ⟨g1, a1, r1, p1, q1, e1, f1⟩ := ha_take (g := g) (l := l) (a := a) (b := b) (R := R) (v := v0) h2 (by omega)
  obtain ⟨g2, a2, r2, p2, q2, e2, f2⟩ := ha_take (l := l) (a := a1) (b := b) (R := R) (v := v1) p1 (by omega)
  obtain ⟨g3, a3, r3, p3, q3, e3, f3⟩ := ha_take (l := l) (a := a2) (b := b) (R := R) (v := v2) p2 (by omega)
  obtain ⟨g4, a4, r4, p4, q4, e4, f4⟩ := ha_take (l := l) (a := a3) (b := b) (R := R) (v := v3) p3 (by omega)
  obtain ⟨g5, a5, r5, p5, q5, e5, f5⟩ := ha_take (l := l) (a := a4) (b := b) (R := R) (v := v4) p4 (by omega)
  refine ⟨g5, a5, hr_meth (by rfl) (by rfl) ?_, p5, by rw [q5, q4, q3, q2, q1]; rfl, fun j hj => by rw [e5 j hj, e4 j hj, e3 j hj, e2 j hj, e1 j hj], fun j hj => by rw [f5 j hj, f4 j hj, f3 j hj, f2 j hj, f1 j hj]⟩
  refine hr_s 2 (pc' := 4) (lc' := [(0, .ref 0), (1, .int v0), (2, .int v1), (3, .int v2), (4, .int v3), (5, .int v4)]) (stk' := [.ref 9]) (mem' := cm g l a b R) (by intro _ _ _; eq_refl) ?_
  refine hr_ivV (ha_roomT h2 hs) (by omega) (by rfl) (by rfl) (by rfl) (by rfl) (by rfl) (by rfl) ?_
  refine hr_s 1 (pc' := cond (fx_cb .ne 1 0) 12 10) (lc' := [(0, .ref 0), (1, .int v0), (2, .int v1), (3, .int v2), (4, .int v3), (5, .int v4)]) (stk' := []) (mem' := cm g l a b R) (by intro _ _ _; eq_refl) ?_
  rw [show fx_cb .ne 1 0 = true from by decide]
  dsimp only [cond]
  refine hr_s 3 (pc' := 17) (lc' := [(0, .ref 0), (1, .int v0), (2, .int v1), (3, .int v2), (4, .int v3), (5, .int v4)]) (stk' := [.int v0, .ref 9]) (mem' := cm g l a b R) (by intro _ _ _; eq_refl) ?_
  refine hr_ivV r1 (by omega) (by rfl) (by rfl) (by rfl) (by rfl) (by rfl) (by rfl) ?_
  refine hr_s 3 (pc' := 25) (lc' := [(0, .ref 0), (1, .int v0), (2, .int v1), (3, .int v2), (4, .int v3), (5, .int v4)]) (stk' := [.int v1, .ref 9]) (mem' := cm g1 l a1 b R) (by intro _ _ _; eq_refl) ?_
  refine hr_ivV r2 (by omega) (by rfl) (by rfl) (by rfl) (by rfl) (by rfl) (by rfl) ?_
  refine hr_s 3 (pc' := 33) (lc' := [(0, .ref 0), (1, .int v0), (2, .int v1), (3, .int v2), (4, .int v3), (5, .int v4)]) (stk' := [.int v2, .ref 9]) (mem' := cm g2 l a2 b R) (by intro _ _ _; eq_refl) ?_
  refine hr_ivV r3 (by omega) (by rfl) (by rfl) (by rfl) (by rfl) (by rfl) (by rfl) ?_
  refine hr_s 3 (pc' := 42) (lc' := [(0, .ref 0), (1, .int v0), (2, .int v1), (3, .int v2), (4, .int v3), (5, .int v4)]) (stk' := [.int v3, .ref 9]) (mem' := cm g3 l a3 b R) (by intro _ _ _; eq_refl) ?_
  refine hr_ivV r4 (by omega) (by rfl) (by rfl) (by rfl) (by rfl) (by rfl) (by rfl) ?_
  refine hr_s 3 (pc' := 51) (lc' := [(0, .ref 0), (1, .int v0), (2, .int v1), (3, .int v2), (4, .int v3), (5, .int v4)]) (stk' := [.int v4, .ref 9]) (mem' := cm g4 l a4 b R) (by intro _ _ _; eq_refl) ?_
  refine hr_ivV r5 (by omega) (by rfl) (by rfl) (by rfl) (by rfl) (by rfl) (by rfl) ?_
  refine hr_s 3 (pc' := 61) (lc' := [(0, .ref 0), (1, .int v0), (2, .int v1), (3, .int v2), (4, .int v3), (5, .int v4)]) (stk' := [.int (g5 9 2)]) (mem' := cm g5 l a5 b R) (by intro _ _ _; eq_refl) ?_
  rw [p5]
  exact hr_ret (by rfl) (by rfl) (by rfl)
theorem ha_feedN {v0 v1 v2 v3 v4 : Int32} (h2 : g 9 2 = nI s) (hs : 880 < s) (hs9 : s ≤ 900) : hr_T 2 134 [.ref 0, .int v0, .int v1, .int v2, .int v3, .int v4] (cm g l a b R) (some (.int (-1))) (cm g l a b R) := by
  refine hr_meth (by rfl) (by rfl) ?_
  refine hr_s 2 (pc' := 4) (lc' := [(0, .ref 0), (1, .int v0), (2, .int v1), (3, .int v2), (4, .int v3), (5, .int v4)]) (stk' := [.ref 9]) (mem' := cm g l a b R) (by intro _ _ _; eq_refl) ?_
  refine hr_ivV (ha_roomF h2 hs hs9) (by omega) (by rfl) (by rfl) (by rfl) (by rfl) (by rfl) (by rfl) ?_
  refine hr_s 1 (pc' := cond (fx_cb .ne 0 0) 12 10) (lc' := [(0, .ref 0), (1, .int v0), (2, .int v1), (3, .int v2), (4, .int v3), (5, .int v4)]) (stk' := []) (mem' := cm g l a b R) (by intro _ _ _; eq_refl) ?_
  rw [show fx_cb .ne 0 0 = false from by decide]
  dsimp only [cond]
  refine hr_s 1 (pc' := 11) (lc' := [(0, .ref 0), (1, .int v0), (2, .int v1), (3, .int v2), (4, .int v3), (5, .int v4)]) (stk' := [.int (-1)]) (mem' := cm g l a b R) (by intro _ _ _; eq_refl) ?_
  exact hr_ret (by rfl) (by rfl) (by rfl)
end TAC
section TAM
variable {g : Nat → Int32} {tp bt : Int64} {a : Nat → Nat → Int32} {b : Nat → Nat → Int64} {s : Nat}
theorem ma_four {v : Int32} (h2 : g 10 = nI s) (hs : s + 4 ≤ 900) : ∃ (g' : Nat → Int32) (a' : Nat → Nat → Int32), fr_T 1 220 [.ref 0, .int v] (fm g tp bt a b) none (fm g' tp bt a' b) ∧ g' 10 = nI (s + 4) ∧ (∀ i, i ≠ 10 → g' i = g i) ∧ a' 6 = t4 (a 6) s v ∧ ∀ j, j ≠ 6 → a' j = a j := by
  refine ⟨upd (upd (upd (upd g 10 (nI (s + 1))) 10 (nI (s + 2))) 10 (nI (s + 3))) 10 (nI (s + 4)), fm_u (fm_u (fm_u (fm_u a 6 s (tb v 24)) 6 (s + 1) (tb v 16)) 6 (s + 2) (tb v 8)) 6 (s + 3) (tb v 0), fr_meth (by rfl) (by rfl) ?_, rfl, fun i hi => by rw [pk_un hi, pk_un hi, pk_un hi, pk_un hi], rfl, fun j hj => (if_neg hj).trans ((if_neg hj).trans ((if_neg hj).trans (if_neg hj)))⟩
  obtain ⟨w0, e0⟩ : ∃ w, tb v 24 = w := ⟨_, rfl⟩
  obtain ⟨w1, e1⟩ : ∃ w, tb v 16 = w := ⟨_, rfl⟩
  obtain ⟨w2, e2⟩ : ∃ w, tb v 8 = w := ⟨_, rfl⟩
  obtain ⟨w3, e3⟩ : ∃ w, tb v 0 = w := ⟨_, rfl⟩
  rw [e0, e1, e2, e3]
  refine fr_s 3 (pc' := 4) (lc' := [(2, .int 24), (0, .ref 0), (1, .int v)]) (stk' := [.int 24]) (mem' := fm g tp bt a b) (by intro _ _ _; eq_refl) ?_
  refine fr_s 1 (pc' := cond (fx_cb .lt 24 0) 36 7) (lc' := [(2, .int 24), (0, .ref 0), (1, .int v)]) (stk' := []) (mem' := fm g tp bt a b) (by intro _ _ _; eq_refl) ?_
  rw [show fx_cb .lt 24 0 = false from by decide]
  dsimp only [cond]
  refine fr_s 8 (pc' := 19) (lc' := [(2, .int 24), (0, .ref 0), (1, .int v)]) (stk' := [.int ((v >>> ((24 : Int32) &&& 31)).toInt8.toInt32), .int (g 10), .ref 6]) (mem' := fm g tp bt a b) (by intro _ _ _; eq_refl) ?_
  rw [h2]
  refine fr_1 (fun _ _ => fx_stB (mem' := fm g tp bt (fm_u a 6 (nI s : Int32).toNatClampNeg (((v >>> ((24 : Int32) &&& 31)).toInt8.toInt32).toInt8.toInt32)) b) (by rfl) (by rfl) (fx_inN (i := s) (by omega) (by omega)) fm_sb6) ?_
  rw [show Int32.toNatClampNeg (nI s) = s from nI_clamp (by omega), show ((v >>> ((24 : Int32) &&& 31)).toInt8.toInt32).toInt8.toInt32 = w0 from e0]
  refine fr_s 5 (pc' := 27) (lc' := [(2, .int 24), (0, .ref 0), (1, .int v)]) (stk' := [.int (g 10 + 1), .ref 0]) (mem' := fm g tp bt (fm_u a 6 s w0) b) (by intro _ _ _; eq_refl) ?_
  rw [h2]
  rw [show (nI s + 1 : Int32) = nI (s + 1) from by simp only [show (1 : Int32) = nI 1 from rfl, nI_add]]
  refine fr_s 4 (pc' := 4) (lc' := [(2, .int 16), (0, .ref 0), (1, .int v)]) (stk' := [.int 16]) (mem' := fm (upd g 10 (nI (s + 1))) tp bt (fm_u a 6 s w0) b) (by intro _ _ _; eq_refl) ?_
  refine fr_s 1 (pc' := cond (fx_cb .lt 16 0) 36 7) (lc' := [(2, .int 16), (0, .ref 0), (1, .int v)]) (stk' := []) (mem' := fm (upd g 10 (nI (s + 1))) tp bt (fm_u a 6 s w0) b) (by intro _ _ _; eq_refl) ?_
  rw [show fx_cb .lt 16 0 = false from by decide]
  dsimp only [cond]
  refine fr_s 8 (pc' := 19) (lc' := [(2, .int 16), (0, .ref 0), (1, .int v)]) (stk' := [.int ((v >>> ((16 : Int32) &&& 31)).toInt8.toInt32), .int (nI (s + 1)), .ref 6]) (mem' := fm (upd g 10 (nI (s + 1))) tp bt (fm_u a 6 s w0) b) (by intro _ _ _; eq_refl) ?_
  refine fr_1 (fun _ _ => fx_stB (mem' := fm (upd g 10 (nI (s + 1))) tp bt (fm_u (fm_u a 6 s w0) 6 (nI (s + 1) : Int32).toNatClampNeg (((v >>> ((16 : Int32) &&& 31)).toInt8.toInt32).toInt8.toInt32)) b) (by rfl) (by rfl) (fx_inN (i := (s + 1)) (by omega) (by omega)) fm_sb6) ?_
  rw [show Int32.toNatClampNeg (nI (s + 1)) = (s + 1) from nI_clamp (by omega), show ((v >>> ((16 : Int32) &&& 31)).toInt8.toInt32).toInt8.toInt32 = w1 from e1]
  refine fr_s 5 (pc' := 27) (lc' := [(2, .int 16), (0, .ref 0), (1, .int v)]) (stk' := [.int (nI (s + 1) + 1), .ref 0]) (mem' := fm (upd g 10 (nI (s + 1))) tp bt (fm_u (fm_u a 6 s w0) 6 (s + 1) w1) b) (by intro _ _ _; eq_refl) ?_
  rw [show (nI (s + 1) + 1 : Int32) = nI (s + 2) from by simp only [show (1 : Int32) = nI 1 from rfl, nI_add]]
  refine fr_s 4 (pc' := 4) (lc' := [(2, .int 8), (0, .ref 0), (1, .int v)]) (stk' := [.int 8]) (mem' := fm (upd (upd g 10 (nI (s + 1))) 10 (nI (s + 2))) tp bt (fm_u (fm_u a 6 s w0) 6 (s + 1) w1) b) (by intro _ _ _; eq_refl) ?_
  refine fr_s 1 (pc' := cond (fx_cb .lt 8 0) 36 7) (lc' := [(2, .int 8), (0, .ref 0), (1, .int v)]) (stk' := []) (mem' := fm (upd (upd g 10 (nI (s + 1))) 10 (nI (s + 2))) tp bt (fm_u (fm_u a 6 s w0) 6 (s + 1) w1) b) (by intro _ _ _; eq_refl) ?_
  rw [show fx_cb .lt 8 0 = false from by decide]
  dsimp only [cond]
  refine fr_s 8 (pc' := 19) (lc' := [(2, .int 8), (0, .ref 0), (1, .int v)]) (stk' := [.int ((v >>> ((8 : Int32) &&& 31)).toInt8.toInt32), .int (nI (s + 2)), .ref 6]) (mem' := fm (upd (upd g 10 (nI (s + 1))) 10 (nI (s + 2))) tp bt (fm_u (fm_u a 6 s w0) 6 (s + 1) w1) b) (by intro _ _ _; eq_refl) ?_
  refine fr_1 (fun _ _ => fx_stB (mem' := fm (upd (upd g 10 (nI (s + 1))) 10 (nI (s + 2))) tp bt (fm_u (fm_u (fm_u a 6 s w0) 6 (s + 1) w1) 6 (nI (s + 2) : Int32).toNatClampNeg (((v >>> ((8 : Int32) &&& 31)).toInt8.toInt32).toInt8.toInt32)) b) (by rfl) (by rfl) (fx_inN (i := (s + 2)) (by omega) (by omega)) fm_sb6) ?_
  rw [show Int32.toNatClampNeg (nI (s + 2)) = (s + 2) from nI_clamp (by omega), show ((v >>> ((8 : Int32) &&& 31)).toInt8.toInt32).toInt8.toInt32 = w2 from e2]
  refine fr_s 5 (pc' := 27) (lc' := [(2, .int 8), (0, .ref 0), (1, .int v)]) (stk' := [.int (nI (s + 2) + 1), .ref 0]) (mem' := fm (upd (upd g 10 (nI (s + 1))) 10 (nI (s + 2))) tp bt (fm_u (fm_u (fm_u a 6 s w0) 6 (s + 1) w1) 6 (s + 2) w2) b) (by intro _ _ _; eq_refl) ?_
  rw [show (nI (s + 2) + 1 : Int32) = nI (s + 3) from by simp only [show (1 : Int32) = nI 1 from rfl, nI_add]]
  refine fr_s 4 (pc' := 4) (lc' := [(2, .int 0), (0, .ref 0), (1, .int v)]) (stk' := [.int 0]) (mem' := fm (upd (upd (upd g 10 (nI (s + 1))) 10 (nI (s + 2))) 10 (nI (s + 3))) tp bt (fm_u (fm_u (fm_u a 6 s w0) 6 (s + 1) w1) 6 (s + 2) w2) b) (by intro _ _ _; eq_refl) ?_
  refine fr_s 1 (pc' := cond (fx_cb .lt 0 0) 36 7) (lc' := [(2, .int 0), (0, .ref 0), (1, .int v)]) (stk' := []) (mem' := fm (upd (upd (upd g 10 (nI (s + 1))) 10 (nI (s + 2))) 10 (nI (s + 3))) tp bt (fm_u (fm_u (fm_u a 6 s w0) 6 (s + 1) w1) 6 (s + 2) w2) b) (by intro _ _ _; eq_refl) ?_
  rw [show fx_cb .lt 0 0 = false from by decide]
  dsimp only [cond]
  refine fr_s 8 (pc' := 19) (lc' := [(2, .int 0), (0, .ref 0), (1, .int v)]) (stk' := [.int ((v >>> ((0 : Int32) &&& 31)).toInt8.toInt32), .int (nI (s + 3)), .ref 6]) (mem' := fm (upd (upd (upd g 10 (nI (s + 1))) 10 (nI (s + 2))) 10 (nI (s + 3))) tp bt (fm_u (fm_u (fm_u a 6 s w0) 6 (s + 1) w1) 6 (s + 2) w2) b) (by intro _ _ _; eq_refl) ?_
  refine fr_1 (fun _ _ => fx_stB (mem' := fm (upd (upd (upd g 10 (nI (s + 1))) 10 (nI (s + 2))) 10 (nI (s + 3))) tp bt (fm_u (fm_u (fm_u (fm_u a 6 s w0) 6 (s + 1) w1) 6 (s + 2) w2) 6 (nI (s + 3) : Int32).toNatClampNeg (((v >>> ((0 : Int32) &&& 31)).toInt8.toInt32).toInt8.toInt32)) b) (by rfl) (by rfl) (fx_inN (i := (s + 3)) (by omega) (by omega)) fm_sb6) ?_
  rw [show Int32.toNatClampNeg (nI (s + 3)) = (s + 3) from nI_clamp (by omega), show ((v >>> ((0 : Int32) &&& 31)).toInt8.toInt32).toInt8.toInt32 = w3 from e3]
  refine fr_s 5 (pc' := 27) (lc' := [(2, .int 0), (0, .ref 0), (1, .int v)]) (stk' := [.int (nI (s + 3) + 1), .ref 0]) (mem' := fm (upd (upd (upd g 10 (nI (s + 1))) 10 (nI (s + 2))) 10 (nI (s + 3))) tp bt (fm_u (fm_u (fm_u (fm_u a 6 s w0) 6 (s + 1) w1) 6 (s + 2) w2) 6 (s + 3) w3) b) (by intro _ _ _; eq_refl) ?_
  rw [show (nI (s + 3) + 1 : Int32) = nI (s + 4) from by simp only [show (1 : Int32) = nI 1 from rfl, nI_add]]
  refine fr_s 4 (pc' := 4) (lc' := [(2, .int (-8)), (0, .ref 0), (1, .int v)]) (stk' := [.int (-8)]) (mem' := fm (upd (upd (upd (upd g 10 (nI (s + 1))) 10 (nI (s + 2))) 10 (nI (s + 3))) 10 (nI (s + 4))) tp bt (fm_u (fm_u (fm_u (fm_u a 6 s w0) 6 (s + 1) w1) 6 (s + 2) w2) 6 (s + 3) w3) b) (by intro _ _ _; eq_refl) ?_
  refine fr_s 1 (pc' := cond (fx_cb .lt (-8) 0) 36 7) (lc' := [(2, .int (-8)), (0, .ref 0), (1, .int v)]) (stk' := []) (mem' := fm (upd (upd (upd (upd g 10 (nI (s + 1))) 10 (nI (s + 2))) 10 (nI (s + 3))) 10 (nI (s + 4))) tp bt (fm_u (fm_u (fm_u (fm_u a 6 s w0) 6 (s + 1) w1) 6 (s + 2) w2) 6 (s + 3) w3) b) (by intro _ _ _; eq_refl) ?_
  rw [show fx_cb .lt (-8) 0 = true from by decide]
  dsimp only [cond]
  exact fr_ret (by rfl) (by rfl) (by rfl)
theorem ma_feed {v0 v1 v2 v3 v4 : Int32} (h2 : g 10 = nI s) (hs : s ≤ 880) : ∃ (g' : Nat → Int32) (a' : Nat → Nat → Int32), fr_T 2 219 [.ref 0, .int v0, .int v1, .int v2, .int v3, .int v4] (fm g tp bt a b) (some (.int (nI (s + 20)))) (fm g' tp bt a' b) ∧ g' 10 = nI (s + 20) ∧ (∀ i, i ≠ 10 → g' i = g i) ∧ a' 6 = t20 (a 6) s v0 v1 v2 v3 v4 ∧ ∀ j, j ≠ 6 → a' j = a j := by
  obtain ⟨g1, a1, r1, p1, f1, q1, e1⟩ := ma_four (g := g) (tp := tp) (bt := bt) (a := a) (b := b) (v := v0) h2 (by omega)
  obtain ⟨g2, a2, r2, p2, f2, q2, e2⟩ := ma_four (tp := tp) (bt := bt) (a := a1) (b := b) (v := v1) p1 (by omega)
  obtain ⟨g3, a3, r3, p3, f3, q3, e3⟩ := ma_four (tp := tp) (bt := bt) (a := a2) (b := b) (v := v2) p2 (by omega)
  obtain ⟨g4, a4, r4, p4, f4, q4, e4⟩ := ma_four (tp := tp) (bt := bt) (a := a3) (b := b) (v := v3) p3 (by omega)
  obtain ⟨g5, a5, r5, p5, f5, q5, e5⟩ := ma_four (tp := tp) (bt := bt) (a := a4) (b := b) (v := v4) p4 (by omega)
  refine ⟨g5, a5, fr_meth (by rfl) (by rfl) ?_, p5, fun i hi => by rw [f5 i hi, f4 i hi, f3 i hi, f2 i hi, f1 i hi], by rw [q5, q4, q3, q2, q1]; rfl, fun j hj => by rw [e5 j hj, e4 j hj, e3 j hj, e2 j hj, e1 j hj]⟩
  refine fr_s 5 (pc' := 10) (lc' := [(0, .ref 0), (1, .int v0), (2, .int v1), (3, .int v2), (4, .int v3), (5, .int v4)]) (stk' := [.int 900, .int (g 10 + 20)]) (mem' := fm g tp bt a b) (by intro _ _ _; eq_refl) ?_
  rw [h2, show (nI s + 20 : Int32) = nI (s + 20) from by simp only [show (20 : Int32) = nI 20 from rfl, nI_add]]
  refine fr_s 1 (pc' := cond (fx_cb .le (nI (s + 20)) 900) 15 13) (lc' := [(0, .ref 0), (1, .int v0), (2, .int v1), (3, .int v2), (4, .int v3), (5, .int v4)]) (stk' := []) (mem' := fm g tp bt a b) (by intro _ _ _; eq_refl) ?_
  rw [show fx_cb .le (nI (s + 20)) 900 = true from cb_leT (a := s + 20) (b := 900) (by omega) (by omega) (by omega)]
  dsimp only [cond]
  refine fr_s 2 (pc' := 17) (lc' := [(0, .ref 0), (1, .int v0), (2, .int v1), (3, .int v2), (4, .int v3), (5, .int v4)]) (stk' := [.int v0, .ref 0]) (mem' := fm g tp bt a b) (by intro _ _ _; eq_refl) ?_
  refine fr_ivV r1 (by omega) (by rfl) (by rfl) (by rfl) (by rfl) (by rfl) (by rfl) ?_
  refine fr_s 2 (pc' := 22) (lc' := [(0, .ref 0), (1, .int v0), (2, .int v1), (3, .int v2), (4, .int v3), (5, .int v4)]) (stk' := [.int v1, .ref 0]) (mem' := fm g1 tp bt a1 b) (by intro _ _ _; eq_refl) ?_
  refine fr_ivV r2 (by omega) (by rfl) (by rfl) (by rfl) (by rfl) (by rfl) (by rfl) ?_
  refine fr_s 2 (pc' := 27) (lc' := [(0, .ref 0), (1, .int v0), (2, .int v1), (3, .int v2), (4, .int v3), (5, .int v4)]) (stk' := [.int v2, .ref 0]) (mem' := fm g2 tp bt a2 b) (by intro _ _ _; eq_refl) ?_
  refine fr_ivV r3 (by omega) (by rfl) (by rfl) (by rfl) (by rfl) (by rfl) (by rfl) ?_
  refine fr_s 2 (pc' := 33) (lc' := [(0, .ref 0), (1, .int v0), (2, .int v1), (3, .int v2), (4, .int v3), (5, .int v4)]) (stk' := [.int v3, .ref 0]) (mem' := fm g3 tp bt a3 b) (by intro _ _ _; eq_refl) ?_
  refine fr_ivV r4 (by omega) (by rfl) (by rfl) (by rfl) (by rfl) (by rfl) (by rfl) ?_
  refine fr_s 2 (pc' := 39) (lc' := [(0, .ref 0), (1, .int v0), (2, .int v1), (3, .int v2), (4, .int v3), (5, .int v4)]) (stk' := [.int v4, .ref 0]) (mem' := fm g4 tp bt a4 b) (by intro _ _ _; eq_refl) ?_
  refine fr_ivV r5 (by omega) (by rfl) (by rfl) (by rfl) (by rfl) (by rfl) (by rfl) ?_
  refine fr_s 2 (pc' := 46) (lc' := [(0, .ref 0), (1, .int v0), (2, .int v1), (3, .int v2), (4, .int v3), (5, .int v4)]) (stk' := [.int (g5 10)]) (mem' := fm g5 tp bt a5 b) (by intro _ _ _; eq_refl) ?_
  rw [p5]
  exact fr_ret (by rfl) (by rfl) (by rfl)
theorem ma_feedN {v0 v1 v2 v3 v4 : Int32} (h2 : g 10 = nI s) (hs : 880 < s) (hs9 : s ≤ 900) : fr_T 2 219 [.ref 0, .int v0, .int v1, .int v2, .int v3, .int v4] (fm g tp bt a b) (some (.int (-1))) (fm g tp bt a b) := by
  refine fr_meth (by rfl) (by rfl) ?_
  refine fr_s 5 (pc' := 10) (lc' := [(0, .ref 0), (1, .int v0), (2, .int v1), (3, .int v2), (4, .int v3), (5, .int v4)]) (stk' := [.int 900, .int (g 10 + 20)]) (mem' := fm g tp bt a b) (by intro _ _ _; eq_refl) ?_
  rw [h2, show (nI s + 20 : Int32) = nI (s + 20) from by simp only [show (20 : Int32) = nI 20 from rfl, nI_add]]
  refine fr_s 1 (pc' := cond (fx_cb .le (nI (s + 20)) 900) 15 13) (lc' := [(0, .ref 0), (1, .int v0), (2, .int v1), (3, .int v2), (4, .int v3), (5, .int v4)]) (stk' := []) (mem' := fm g tp bt a b) (by intro _ _ _; eq_refl) ?_
  rw [show fx_cb .le (nI (s + 20)) 900 = false from cb_leF (a := s + 20) (b := 900) (by omega) (by omega) (by omega)]
  dsimp only [cond]
  refine fr_s 1 (pc' := 14) (lc' := [(0, .ref 0), (1, .int v0), (2, .int v1), (3, .int v2), (4, .int v3), (5, .int v4)]) (stk' := [.int (-1)]) (mem' := fm g tp bt a b) (by intro _ _ _; eq_refl) ?_
  exact fr_ret (by rfl) (by rfl) (by rfl)
end TAM
