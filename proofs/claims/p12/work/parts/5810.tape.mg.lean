section MH22_0
/-! ===== the tape: feed of both sides, exact ===== -/
/-- a byte of four -/
def tb (v k : Int32) : Int32 := ((v >>> (k &&& 31)).toInt8.toInt32).toInt8.toInt32
/-- four bytes put behind s -/
def t4 (f : Nat → Int32) (s : Nat) (v : Int32) : Nat → Int32 := upd (upd (upd (upd f s (tb v 24)) (s + 1) (tb v 16)) (s + 2) (tb v 8)) (s + 3) (tb v 0)
def t20 (f : Nat → Int32) (s : Nat) (v0 v1 v2 v3 v4 : Int32) : Nat → Int32 := t4 (t4 (t4 (t4 (t4 f s v0) (s + 4) v1) (s + 8) v2) (s + 12) v3) (s + 16) v4
theorem upd_eq {f h : Nat → Int32} {s k : Nat} {x : Int32} (e : ∀ i, i < s → f i = h i) (hk : k ≤ s) : ∀ i, i < s + 1 → k = s → upd f k x i = upd h k x i := by
  intro i hi hks
  unfold upd
  by_cases z : i = k
  · rw [if_pos z, if_pos z]
  · rw [if_neg z, if_neg z]
    exact e i (by omega)
theorem t4_eq {f h : Nat → Int32} {s : Nat} {v : Int32} (e : ∀ i, i < s → f i = h i) : ∀ i, i < s + 4 → t4 f s v i = t4 h s v i := by
  have e1 := fun i hi => upd_eq (x := tb v 24) e (Nat.le_refl s) i hi rfl
  have e2 := fun i hi => upd_eq (x := tb v 16) e1 (Nat.le_refl (s + 1)) i hi rfl
  have e3 := fun i hi => upd_eq (x := tb v 8) e2 (Nat.le_refl (s + 2)) i hi rfl
  exact fun i hi => upd_eq (x := tb v 0) e3 (Nat.le_refl (s + 3)) i hi rfl
theorem t20_eq {f h : Nat → Int32} {s : Nat} {v0 v1 v2 v3 v4 : Int32} (e : ∀ i, i < s → f i = h i) : ∀ i, i < s + 20 → t20 f s v0 v1 v2 v3 v4 i = t20 h s v0 v1 v2 v3 v4 i := t4_eq (t4_eq (t4_eq (t4_eq (t4_eq e))))
theorem tb_bd (v k : Int32) : (-128 : Int) ≤ (tb v k).toInt ∧ (tb v k).toInt ≤ 127 := rk_s_i2b _
theorem t4_bd {f : Nat → Int32} {s n : Nat} {v : Int32} (e : ∀ i, i < n → (-128 : Int) ≤ (f i).toInt ∧ (f i).toInt ≤ 127) : ∀ i, i < n → (-128 : Int) ≤ (t4 f s v i).toInt ∧ (t4 f s v i).toInt ≤ 127 := by
  intro i hi
  unfold t4 upd
  split
  · exact tb_bd _ _
  · split
    · exact tb_bd _ _
    · split
      · exact tb_bd _ _
      · split
        · exact tb_bd _ _
        · exact e i hi
theorem t20_bd {f : Nat → Int32} {s n : Nat} {v0 v1 v2 v3 v4 : Int32} (e : ∀ i, i < n → (-128 : Int) ≤ (f i).toInt ∧ (f i).toInt ≤ 127) : ∀ i, i < n → (-128 : Int) ≤ (t20 f s v0 v1 v2 v3 v4 i).toInt ∧ (t20 f s v0 v1 v2 v3 v4 i).toInt ≤ 127 := t4_bd (t4_bd (t4_bd (t4_bd (t4_bd e))))
section TAC
variable {g : Nat → Nat → Int32} {l : Nat → Nat → Int64} {a : Nat → Nat → Int32} {b : Nat → Nat → Int64} {R : fx_M} {s : Nat}
theorem ha_take {v : Int32} (h2 : g 9 2 = nI s) (hs : s + 4 ≤ 900) : ∃ g' a' : Nat → Nat → Int32, hr_T 1 101 [.ref 9, .int v] (cm g l a b R) none (cm g' l a' b R) ∧ g' 9 2 = nI (s + 4) ∧ a' 10 = t4 (a 10) s v ∧ (∀ j, j ≠ 9 → g' j = g j) ∧ ∀ j, j ≠ 10 → a' j = a j := by
  refine ⟨fm_u (fm_u (fm_u (fm_u g 9 2 (nI (s + 1))) 9 2 (nI (s + 2))) 9 2 (nI (s + 3))) 9 2 (nI (s + 4)), fm_u (fm_u (fm_u (fm_u a 10 s (tb v 24)) 10 (s + 1) (tb v 16)) 10 (s + 2) (tb v 8)) 10 (s + 3) (tb v 0), hr_meth (by rfl) (by rfl) ?_, rfl, rfl, fun j hj => by rw [fm_un hj, fm_un hj, fm_un hj, fm_un hj], fun j hj => by rw [fm_un hj, fm_un hj, fm_un hj, fm_un hj]⟩
  obtain ⟨w0, e0⟩ : ∃ w, tb v 24 = w := ⟨_, rfl⟩
  obtain ⟨w1, e1⟩ : ∃ w, tb v 16 = w := ⟨_, rfl⟩
  obtain ⟨w2, e2⟩ : ∃ w, tb v 8 = w := ⟨_, rfl⟩
  obtain ⟨w3, e3⟩ : ∃ w, tb v 0 = w := ⟨_, rfl⟩
  rw [e0, e1, e2, e3]
  refine hr_s 3 (pc' := 4) (lc' := [(2, .int 24), (0, .ref 9), (1, .int v)]) (stk' := [.int 24]) (mem' := cm g l a b R) (by intro _ _ _; eq_refl) ?_
  refine hr_s 1 (pc' := cond (fx_cb .lt 24 0) 46 7) (lc' := [(2, .int 24), (0, .ref 9), (1, .int v)]) (stk' := []) (mem' := cm g l a b R) (by intro _ _ _; eq_refl) ?_
  rw [show fx_cb .lt 24 0 = false from by decide]
  dsimp only [cond]
  refine hr_s 3 (pc' := 14) (lc' := [(2, .int 24), (0, .ref 9), (1, .int v)]) (stk' := [.int 900, .int (g 9 2)]) (mem' := cm g l a b R) (by intro _ _ _; eq_refl) ?_
  rw [h2]
  refine hr_s 1 (pc' := cond (fx_cb .ge (nI s) 900) 46 17) (lc' := [(2, .int 24), (0, .ref 9), (1, .int v)]) (stk' := []) (mem' := cm g l a b R) (by intro _ _ _; eq_refl) ?_
  rw [show fx_cb .ge (nI s) 900 = false from cb_geF (a := s) (b := 900) (by omega) (by omega) (by omega)]
  dsimp only [cond]
  refine hr_s 8 (pc' := 29) (lc' := [(2, .int 24), (0, .ref 9), (1, .int v)]) (stk' := [.int ((v >>> ((24 : Int32) &&& 31)).toInt8.toInt32), .int (g 9 2), .ref 10]) (mem' := cm g l a b R) (by intro _ _ _; eq_refl) ?_
  rw [h2]
  refine hr_stB (mem' := cm g l (fm_u a 10 (nI s : Int32).toNatClampNeg (((v >>> ((24 : Int32) &&& 31)).toInt8.toInt32).toInt8.toInt32)) b R) (by rfl) (by rfl) (fx_inN (i := s) (by omega) (by omega)) cm_sb10 ?_
  rw [show Int32.toNatClampNeg (nI s) = s from nI_clamp (by omega), show ((v >>> ((24 : Int32) &&& 31)).toInt8.toInt32).toInt8.toInt32 = w0 from e0]
  refine hr_s 5 (pc' := 37) (lc' := [(2, .int 24), (0, .ref 9), (1, .int v)]) (stk' := [.int (g 9 2 + 1), .ref 9]) (mem' := cm g l (fm_u a 10 s w0) b R) (by intro _ _ _; eq_refl) ?_
  rw [h2]
  rw [show (nI s + 1 : Int32) = nI (s + 1) from by simp only [show (1 : Int32) = nI 1 from rfl, nI_add]]
  refine hr_s 4 (pc' := 4) (lc' := [(2, .int 16), (0, .ref 9), (1, .int v)]) (stk' := [.int 16]) (mem' := cm (fm_u g 9 2 (nI (s + 1))) l (fm_u a 10 s w0) b R) (by intro _ _ _; eq_refl) ?_
  refine hr_s 1 (pc' := cond (fx_cb .lt 16 0) 46 7) (lc' := [(2, .int 16), (0, .ref 9), (1, .int v)]) (stk' := []) (mem' := cm (fm_u g 9 2 (nI (s + 1))) l (fm_u a 10 s w0) b R) (by intro _ _ _; eq_refl) ?_
  rw [show fx_cb .lt 16 0 = false from by decide]
  dsimp only [cond]
  refine hr_s 3 (pc' := 14) (lc' := [(2, .int 16), (0, .ref 9), (1, .int v)]) (stk' := [.int 900, .int (nI (s + 1))]) (mem' := cm (fm_u g 9 2 (nI (s + 1))) l (fm_u a 10 s w0) b R) (by intro _ _ _; eq_refl) ?_
  refine hr_s 1 (pc' := cond (fx_cb .ge (nI (s + 1)) 900) 46 17) (lc' := [(2, .int 16), (0, .ref 9), (1, .int v)]) (stk' := []) (mem' := cm (fm_u g 9 2 (nI (s + 1))) l (fm_u a 10 s w0) b R) (by intro _ _ _; eq_refl) ?_
  rw [show fx_cb .ge (nI (s + 1)) 900 = false from cb_geF (a := (s + 1)) (b := 900) (by omega) (by omega) (by omega)]
  dsimp only [cond]
  refine hr_s 8 (pc' := 29) (lc' := [(2, .int 16), (0, .ref 9), (1, .int v)]) (stk' := [.int ((v >>> ((16 : Int32) &&& 31)).toInt8.toInt32), .int (nI (s + 1)), .ref 10]) (mem' := cm (fm_u g 9 2 (nI (s + 1))) l (fm_u a 10 s w0) b R) (by intro _ _ _; eq_refl) ?_
  refine hr_stB (mem' := cm (fm_u g 9 2 (nI (s + 1))) l (fm_u (fm_u a 10 s w0) 10 (nI (s + 1) : Int32).toNatClampNeg (((v >>> ((16 : Int32) &&& 31)).toInt8.toInt32).toInt8.toInt32)) b R) (by rfl) (by rfl) (fx_inN (i := (s + 1)) (by omega) (by omega)) cm_sb10 ?_
  rw [show Int32.toNatClampNeg (nI (s + 1)) = (s + 1) from nI_clamp (by omega), show ((v >>> ((16 : Int32) &&& 31)).toInt8.toInt32).toInt8.toInt32 = w1 from e1]
  refine hr_s 5 (pc' := 37) (lc' := [(2, .int 16), (0, .ref 9), (1, .int v)]) (stk' := [.int (nI (s + 1) + 1), .ref 9]) (mem' := cm (fm_u g 9 2 (nI (s + 1))) l (fm_u (fm_u a 10 s w0) 10 (s + 1) w1) b R) (by intro _ _ _; eq_refl) ?_
  rw [show (nI (s + 1) + 1 : Int32) = nI (s + 2) from by simp only [show (1 : Int32) = nI 1 from rfl, nI_add]]
  refine hr_s 4 (pc' := 4) (lc' := [(2, .int 8), (0, .ref 9), (1, .int v)]) (stk' := [.int 8]) (mem' := cm (fm_u (fm_u g 9 2 (nI (s + 1))) 9 2 (nI (s + 2))) l (fm_u (fm_u a 10 s w0) 10 (s + 1) w1) b R) (by intro _ _ _; eq_refl) ?_
  refine hr_s 1 (pc' := cond (fx_cb .lt 8 0) 46 7) (lc' := [(2, .int 8), (0, .ref 9), (1, .int v)]) (stk' := []) (mem' := cm (fm_u (fm_u g 9 2 (nI (s + 1))) 9 2 (nI (s + 2))) l (fm_u (fm_u a 10 s w0) 10 (s + 1) w1) b R) (by intro _ _ _; eq_refl) ?_
  rw [show fx_cb .lt 8 0 = false from by decide]
  dsimp only [cond]
  refine hr_s 3 (pc' := 14) (lc' := [(2, .int 8), (0, .ref 9), (1, .int v)]) (stk' := [.int 900, .int (nI (s + 2))]) (mem' := cm (fm_u (fm_u g 9 2 (nI (s + 1))) 9 2 (nI (s + 2))) l (fm_u (fm_u a 10 s w0) 10 (s + 1) w1) b R) (by intro _ _ _; eq_refl) ?_
  refine hr_s 1 (pc' := cond (fx_cb .ge (nI (s + 2)) 900) 46 17) (lc' := [(2, .int 8), (0, .ref 9), (1, .int v)]) (stk' := []) (mem' := cm (fm_u (fm_u g 9 2 (nI (s + 1))) 9 2 (nI (s + 2))) l (fm_u (fm_u a 10 s w0) 10 (s + 1) w1) b R) (by intro _ _ _; eq_refl) ?_
  rw [show fx_cb .ge (nI (s + 2)) 900 = false from cb_geF (a := (s + 2)) (b := 900) (by omega) (by omega) (by omega)]
  dsimp only [cond]
  refine hr_s 8 (pc' := 29) (lc' := [(2, .int 8), (0, .ref 9), (1, .int v)]) (stk' := [.int ((v >>> ((8 : Int32) &&& 31)).toInt8.toInt32), .int (nI (s + 2)), .ref 10]) (mem' := cm (fm_u (fm_u g 9 2 (nI (s + 1))) 9 2 (nI (s + 2))) l (fm_u (fm_u a 10 s w0) 10 (s + 1) w1) b R) (by intro _ _ _; eq_refl) ?_
  refine hr_stB (mem' := cm (fm_u (fm_u g 9 2 (nI (s + 1))) 9 2 (nI (s + 2))) l (fm_u (fm_u (fm_u a 10 s w0) 10 (s + 1) w1) 10 (nI (s + 2) : Int32).toNatClampNeg (((v >>> ((8 : Int32) &&& 31)).toInt8.toInt32).toInt8.toInt32)) b R) (by rfl) (by rfl) (fx_inN (i := (s + 2)) (by omega) (by omega)) cm_sb10 ?_
  rw [show Int32.toNatClampNeg (nI (s + 2)) = (s + 2) from nI_clamp (by omega), show ((v >>> ((8 : Int32) &&& 31)).toInt8.toInt32).toInt8.toInt32 = w2 from e2]
  refine hr_s 5 (pc' := 37) (lc' := [(2, .int 8), (0, .ref 9), (1, .int v)]) (stk' := [.int (nI (s + 2) + 1), .ref 9]) (mem' := cm (fm_u (fm_u g 9 2 (nI (s + 1))) 9 2 (nI (s + 2))) l (fm_u (fm_u (fm_u a 10 s w0) 10 (s + 1) w1) 10 (s + 2) w2) b R) (by intro _ _ _; eq_refl) ?_
  rw [show (nI (s + 2) + 1 : Int32) = nI (s + 3) from by simp only [show (1 : Int32) = nI 1 from rfl, nI_add]]
  refine hr_s 4 (pc' := 4) (lc' := [(2, .int 0), (0, .ref 9), (1, .int v)]) (stk' := [.int 0]) (mem' := cm (fm_u (fm_u (fm_u g 9 2 (nI (s + 1))) 9 2 (nI (s + 2))) 9 2 (nI (s + 3))) l (fm_u (fm_u (fm_u a 10 s w0) 10 (s + 1) w1) 10 (s + 2) w2) b R) (by intro _ _ _; eq_refl) ?_
  refine hr_s 1 (pc' := cond (fx_cb .lt 0 0) 46 7) (lc' := [(2, .int 0), (0, .ref 9), (1, .int v)]) (stk' := []) (mem' := cm (fm_u (fm_u (fm_u g 9 2 (nI (s + 1))) 9 2 (nI (s + 2))) 9 2 (nI (s + 3))) l (fm_u (fm_u (fm_u a 10 s w0) 10 (s + 1) w1) 10 (s + 2) w2) b R) (by intro _ _ _; eq_refl) ?_
  rw [show fx_cb .lt 0 0 = false from by decide]
  dsimp only [cond]
  refine hr_s 3 (pc' := 14) (lc' := [(2, .int 0), (0, .ref 9), (1, .int v)]) (stk' := [.int 900, .int (nI (s + 3))]) (mem' := cm (fm_u (fm_u (fm_u g 9 2 (nI (s + 1))) 9 2 (nI (s + 2))) 9 2 (nI (s + 3))) l (fm_u (fm_u (fm_u a 10 s w0) 10 (s + 1) w1) 10 (s + 2) w2) b R) (by intro _ _ _; eq_refl) ?_
  refine hr_s 1 (pc' := cond (fx_cb .ge (nI (s + 3)) 900) 46 17) (lc' := [(2, .int 0), (0, .ref 9), (1, .int v)]) (stk' := []) (mem' := cm (fm_u (fm_u (fm_u g 9 2 (nI (s + 1))) 9 2 (nI (s + 2))) 9 2 (nI (s + 3))) l (fm_u (fm_u (fm_u a 10 s w0) 10 (s + 1) w1) 10 (s + 2) w2) b R) (by intro _ _ _; eq_refl) ?_
  rw [show fx_cb .ge (nI (s + 3)) 900 = false from cb_geF (a := (s + 3)) (b := 900) (by omega) (by omega) (by omega)]
  dsimp only [cond]
  refine hr_s 8 (pc' := 29) (lc' := [(2, .int 0), (0, .ref 9), (1, .int v)]) (stk' := [.int ((v >>> ((0 : Int32) &&& 31)).toInt8.toInt32), .int (nI (s + 3)), .ref 10]) (mem' := cm (fm_u (fm_u (fm_u g 9 2 (nI (s + 1))) 9 2 (nI (s + 2))) 9 2 (nI (s + 3))) l (fm_u (fm_u (fm_u a 10 s w0) 10 (s + 1) w1) 10 (s + 2) w2) b R) (by intro _ _ _; eq_refl) ?_
  refine hr_stB (mem' := cm (fm_u (fm_u (fm_u g 9 2 (nI (s + 1))) 9 2 (nI (s + 2))) 9 2 (nI (s + 3))) l (fm_u (fm_u (fm_u (fm_u a 10 s w0) 10 (s + 1) w1) 10 (s + 2) w2) 10 (nI (s + 3) : Int32).toNatClampNeg (((v >>> ((0 : Int32) &&& 31)).toInt8.toInt32).toInt8.toInt32)) b R) (by rfl) (by rfl) (fx_inN (i := (s + 3)) (by omega) (by omega)) cm_sb10 ?_
  rw [show Int32.toNatClampNeg (nI (s + 3)) = (s + 3) from nI_clamp (by omega), show ((v >>> ((0 : Int32) &&& 31)).toInt8.toInt32).toInt8.toInt32 = w3 from e3]
  refine hr_s 5 (pc' := 37) (lc' := [(2, .int 0), (0, .ref 9), (1, .int v)]) (stk' := [.int (nI (s + 3) + 1), .ref 9]) (mem' := cm (fm_u (fm_u (fm_u g 9 2 (nI (s + 1))) 9 2 (nI (s + 2))) 9 2 (nI (s + 3))) l (fm_u (fm_u (fm_u (fm_u a 10 s w0) 10 (s + 1) w1) 10 (s + 2) w2) 10 (s + 3) w3) b R) (by intro _ _ _; eq_refl) ?_
  rw [show (nI (s + 3) + 1 : Int32) = nI (s + 4) from by simp only [show (1 : Int32) = nI 1 from rfl, nI_add]]
  refine hr_s 4 (pc' := 4) (lc' := [(2, .int (-8)), (0, .ref 9), (1, .int v)]) (stk' := [.int (-8)]) (mem' := cm (fm_u (fm_u (fm_u (fm_u g 9 2 (nI (s + 1))) 9 2 (nI (s + 2))) 9 2 (nI (s + 3))) 9 2 (nI (s + 4))) l (fm_u (fm_u (fm_u (fm_u a 10 s w0) 10 (s + 1) w1) 10 (s + 2) w2) 10 (s + 3) w3) b R) (by intro _ _ _; eq_refl) ?_
  refine hr_s 1 (pc' := cond (fx_cb .lt (-8) 0) 46 7) (lc' := [(2, .int (-8)), (0, .ref 9), (1, .int v)]) (stk' := []) (mem' := cm (fm_u (fm_u (fm_u (fm_u g 9 2 (nI (s + 1))) 9 2 (nI (s + 2))) 9 2 (nI (s + 3))) 9 2 (nI (s + 4))) l (fm_u (fm_u (fm_u (fm_u a 10 s w0) 10 (s + 1) w1) 10 (s + 2) w2) 10 (s + 3) w3) b R) (by intro _ _ _; eq_refl) ?_
  rw [show fx_cb .lt (-8) 0 = true from by decide]
  dsimp only [cond]
  exact hr_ret (by rfl) (by rfl) (by rfl)
theorem ha_roomT (h2 : g 9 2 = nI s) (hs : s ≤ 880) : hr_T 1 100 [.ref 9] (cm g l a b R) (some (.int 1)) (cm g l a b R) := by
  refine hr_meth (by rfl) (by rfl) ?_
  refine hr_s 5 (pc' := 10) (lc' := [(0, .ref 9)]) (stk' := [.int 900, .int (g 9 2 + 20)]) (mem' := cm g l a b R) (by intro _ _ _; eq_refl) ?_
  rw [h2, show (nI s + 20 : Int32) = nI (s + 20) from by simp only [show (20 : Int32) = nI 20 from rfl, nI_add]]
  refine hr_s 1 (pc' := cond (fx_cb .gt (nI (s + 20)) 900) 17 13) (lc' := [(0, .ref 9)]) (stk' := []) (mem' := cm g l a b R) (by intro _ _ _; eq_refl) ?_
  rw [show fx_cb .gt (nI (s + 20)) 900 = false from cb_gtF (a := s + 20) (b := 900) (by omega) (by omega) (by omega)]
  dsimp only [cond]
  refine hr_s 2 (pc' := 18) (lc' := [(0, .ref 9)]) (stk' := [.int 1]) (mem' := cm g l a b R) (by intro _ _ _; eq_refl) ?_
  exact hr_ret (by rfl) (by rfl) (by rfl)
theorem ha_roomF (h2 : g 9 2 = nI s) (hs : 880 < s) (hs9 : s ≤ 900) : hr_T 1 100 [.ref 9] (cm g l a b R) (some (.int 0)) (cm g l a b R) := by
  refine hr_meth (by rfl) (by rfl) ?_
  refine hr_s 5 (pc' := 10) (lc' := [(0, .ref 9)]) (stk' := [.int 900, .int (g 9 2 + 20)]) (mem' := cm g l a b R) (by intro _ _ _; eq_refl) ?_
  rw [h2, show (nI s + 20 : Int32) = nI (s + 20) from by simp only [show (20 : Int32) = nI 20 from rfl, nI_add]]
  refine hr_s 1 (pc' := cond (fx_cb .gt (nI (s + 20)) 900) 17 13) (lc' := [(0, .ref 9)]) (stk' := []) (mem' := cm g l a b R) (by intro _ _ _; eq_refl) ?_
  rw [show fx_cb .gt (nI (s + 20)) 900 = true from cb_gtT (a := s + 20) (b := 900) (by omega) (by omega) (by omega)]
  dsimp only [cond]
  refine hr_s 1 (pc' := 18) (lc' := [(0, .ref 9)]) (stk' := [.int 0]) (mem' := cm g l a b R) (by intro _ _ _; eq_refl) ?_
  exact hr_ret (by rfl) (by rfl) (by rfl)
theorem ha_feed {v0 v1 v2 v3 v4 : Int32} (h2 : g 9 2 = nI s) (hs : s ≤ 880) : ∃ g' a' : Nat → Nat → Int32, hr_T 2 134 [.ref 0, .int v0, .int v1, .int v2, .int v3, .int v4] (cm g l a b R) (some (.int (nI (s + 20)))) (cm g' l a' b R) ∧ g' 9 2 = nI (s + 20) ∧ a' 10 = t20 (a 10) s v0 v1 v2 v3 v4 ∧ (∀ j, j ≠ 9 → g' j = g j) ∧ ∀ j, j ≠ 10 → a' j = a j := by
  obtain ⟨g1, a1, r1, p1, q1, e1, f1⟩ := ha_take (g := g) (l := l) (a := a) (b := b) (R := R) (v := v0) h2 (by omega)
  obtain ⟨g2, a2, r2, p2, q2, e2, f2⟩ := ha_take (l := l) (a := a1) (b := b) (R := R) (v := v1) p1 (by omega)
  obtain ⟨g3, a3, r3, p3, q3, e3, f3⟩ := ha_take (l := l) (a := a2) (b := b) (R := R) (v := v2) p2 (by omega)
  obtain ⟨g4, a4, r4, p4, q4, e4, f4⟩ := ha_take (l := l) (a := a3) (b := b) (R := R) (v := v3) p3 (by omega)
  obtain ⟨g5, a5, r5, p5, q5, e5, f5⟩ := ha_take (l := l) (a := a4) (b := b) (R := R) (v := v4) p4 (by omega)
  refine ⟨g5, a5, hr_meth (by rfl) (by rfl) ?_, p5, by rw [q5, q4, q3, q2, q1]; rfl, fun j hj => by rw [e5 j hj, e4 j hj, e3 j hj, e2 j hj, e1 j hj], fun j hj => by rw [f5 j hj, f4 j hj, f3 j hj, f2 j hj, f1 j hj]⟩
  refine hr_s 2 (pc' := 4) (lc' := [(0, .ref 0), (1, .int v0), (2, .int v1), (3, .int v2), (4, .int v3), (5, .int v4)]) (stk' := [.ref 9]) (mem' := cm g l a b R) (by intro _ _ _; eq_refl) ?_
  refine hr_ivV (ha_roomT h2 hs) (by omega) (by rfl) (by rfl) (by rfl) (by rfl) (by rfl) (by rfl) ?_
  refine hr_s 1 (pc' := cond (fx_cb .ne 1 0) 12 10) (lc' := [(0, .ref 0), (1, .int v0), (2, .int v1), (3, .int v2), (4, .int v3), (5, .int v4)]) (stk' := []) (mem' := cm g l a b R) (by intro _ _ _; eq_refl) ?_
  rw [show fx_cb .ne 1 0 = true from by decide]
  dsimp only [cond]
  refine hr_s 3 (pc' := 17) (lc' := [(0, .ref 0), (1, .int v0), (2, .int v1), (3, .int v2), (4, .int v3), (5, .int v4)]) (stk' := [.int v0, .ref 9]) (mem' := cm g l a b R) (by intro _ _ _; eq_refl) ?_
  refine hr_ivV r1 (by omega) (by rfl) (by rfl) (by rfl) (by rfl) (by rfl) (by rfl) ?_
  refine hr_s 3 (pc' := 25) (lc' := [(0, .ref 0), (1, .int v0), (2, .int v1), (3, .int v2), (4, .int v3), (5, .int v4)]) (stk' := [.int v1, .ref 9]) (mem' := cm g1 l a1 b R) (by intro _ _ _; eq_refl) ?_
  refine hr_ivV r2 (by omega) (by rfl) (by rfl) (by rfl) (by rfl) (by rfl) (by rfl) ?_
  refine hr_s 3 (pc' := 33) (lc' := [(0, .ref 0), (1, .int v0), (2, .int v1), (3, .int v2), (4, .int v3), (5, .int v4)]) (stk' := [.int v2, .ref 9]) (mem' := cm g2 l a2 b R) (by intro _ _ _; eq_refl) ?_
  refine hr_ivV r3 (by omega) (by rfl) (by rfl) (by rfl) (by rfl) (by rfl) (by rfl) ?_
  refine hr_s 3 (pc' := 42) (lc' := [(0, .ref 0), (1, .int v0), (2, .int v1), (3, .int v2), (4, .int v3), (5, .int v4)]) (stk' := [.int v3, .ref 9]) (mem' := cm g3 l a3 b R) (by intro _ _ _; eq_refl) ?_
  refine hr_ivV r4 (by omega) (by rfl) (by rfl) (by rfl) (by rfl) (by rfl) (by rfl) ?_
  refine hr_s 3 (pc' := 51) (lc' := [(0, .ref 0), (1, .int v0), (2, .int v1), (3, .int v2), (4, .int v3), (5, .int v4)]) (stk' := [.int v4, .ref 9]) (mem' := cm g4 l a4 b R) (by intro _ _ _; eq_refl) ?_
  refine hr_ivV r5 (by omega) (by rfl) (by rfl) (by rfl) (by rfl) (by rfl) (by rfl) ?_
  refine hr_s 3 (pc' := 61) (lc' := [(0, .ref 0), (1, .int v0), (2, .int v1), (3, .int v2), (4, .int v3), (5, .int v4)]) (stk' := [.int (g5 9 2)]) (mem' := cm g5 l a5 b R) (by intro _ _ _; eq_refl) ?_
  rw [p5]
  exact hr_ret (by rfl) (by rfl) (by rfl)
theorem ha_feedN {v0 v1 v2 v3 v4 : Int32} (h2 : g 9 2 = nI s) (hs : 880 < s) (hs9 : s ≤ 900) : hr_T 2 134 [.ref 0, .int v0, .int v1, .int v2, .int v3, .int v4] (cm g l a b R) (some (.int (-1))) (cm g l a b R) := by
  refine hr_meth (by rfl) (by rfl) ?_
  refine hr_s 2 (pc' := 4) (lc' := [(0, .ref 0), (1, .int v0), (2, .int v1), (3, .int v2), (4, .int v3), (5, .int v4)]) (stk' := [.ref 9]) (mem' := cm g l a b R) (by intro _ _ _; eq_refl) ?_
  refine hr_ivV (ha_roomF h2 hs hs9) (by omega) (by rfl) (by rfl) (by rfl) (by rfl) (by rfl) (by rfl) ?_
  refine hr_s 1 (pc' := cond (fx_cb .ne 0 0) 12 10) (lc' := [(0, .ref 0), (1, .int v0), (2, .int v1), (3, .int v2), (4, .int v3), (5, .int v4)]) (stk' := []) (mem' := cm g l a b R) (by intro _ _ _; eq_refl) ?_
  rw [show fx_cb .ne 0 0 = false from by decide]
  dsimp only [cond]
  refine hr_s 1 (pc' := 11) (lc' := [(0, .ref 0), (1, .int v0), (2, .int v1), (3, .int v2), (4, .int v3), (5, .int v4)]) (stk' := [.int (-1)]) (mem' := cm g l a b R) (by intro _ _ _; eq_refl) ?_
  exact hr_ret (by rfl) (by rfl) (by rfl)
end TAC
section TAM
variable {g : Nat → Int32} {tp bt : Int64} {a : Nat → Nat → Int32} {b : Nat → Nat → Int64} {s : Nat}
theorem ma_four {v : Int32} (h2 : g 10 = nI s) (hs : s + 4 ≤ 900) : ∃ (g' : Nat → Int32) (a' : Nat → Nat → Int32), fr_T 1 220 [.ref 0, .int v] (fm g tp bt a b) none (fm g' tp bt a' b) ∧ g' 10 = nI (s + 4) ∧ (∀ i, i ≠ 10 → g' i = g i) ∧ a' 6 = t4 (a 6) s v ∧ ∀ j, j ≠ 6 → a' j = a j := by
  refine ⟨upd (upd (upd (upd g 10 (nI (s + 1))) 10 (nI (s + 2))) 10 (nI (s + 3))) 10 (nI (s + 4)), fm_u (fm_u (fm_u (fm_u a 6 s (tb v 24)) 6 (s + 1) (tb v 16)) 6 (s + 2) (tb v 8)) 6 (s + 3) (tb v 0), fr_meth (by rfl) (by rfl) ?_, rfl, fun i hi => by rw [pk_un hi, pk_un hi, pk_un hi, pk_un hi], rfl, fun j hj => (if_neg hj).trans ((if_neg hj).trans ((if_neg hj).trans (if_neg hj)))⟩
  obtain ⟨w0, e0⟩ : ∃ w, tb v 24 = w := ⟨_, rfl⟩
  obtain ⟨w1, e1⟩ : ∃ w, tb v 16 = w := ⟨_, rfl⟩
  obtain ⟨w2, e2⟩ : ∃ w, tb v 8 = w := ⟨_, rfl⟩
  obtain ⟨w3, e3⟩ : ∃ w, tb v 0 = w := ⟨_, rfl⟩
  rw [e0, e1, e2, e3]
  refine fr_s 3 (pc' := 4) (lc' := [(2, .int 24), (0, .ref 0), (1, .int v)]) (stk' := [.int 24]) (mem' := fm g tp bt a b) (by intro _ _ _; eq_refl) ?_
  refine fr_s 1 (pc' := cond (fx_cb .lt 24 0) 36 7) (lc' := [(2, .int 24), (0, .ref 0), (1, .int v)]) (stk' := []) (mem' := fm g tp bt a b) (by intro _ _ _; eq_refl) ?_
  rw [show fx_cb .lt 24 0 = false from by decide]
  dsimp only [cond]
  refine fr_s 8 (pc' := 19) (lc' := [(2, .int 24), (0, .ref 0), (1, .int v)]) (stk' := [.int ((v >>> ((24 : Int32) &&& 31)).toInt8.toInt32), .int (g 10), .ref 6]) (mem' := fm g tp bt a b) (by intro _ _ _; eq_refl) ?_
  rw [h2]
  refine fr_1 (fun _ _ => fx_stB (mem' := fm g tp bt (fm_u a 6 (nI s : Int32).toNatClampNeg (((v >>> ((24 : Int32) &&& 31)).toInt8.toInt32).toInt8.toInt32)) b) (by rfl) (by rfl) (fx_inN (i := s) (by omega) (by omega)) fm_sb6) ?_
  rw [show Int32.toNatClampNeg (nI s) = s from nI_clamp (by omega), show ((v >>> ((24 : Int32) &&& 31)).toInt8.toInt32).toInt8.toInt32 = w0 from e0]
  refine fr_s 5 (pc' := 27) (lc' := [(2, .int 24), (0, .ref 0), (1, .int v)]) (stk' := [.int (g 10 + 1), .ref 0]) (mem' := fm g tp bt (fm_u a 6 s w0) b) (by intro _ _ _; eq_refl) ?_
  rw [h2]
  rw [show (nI s + 1 : Int32) = nI (s + 1) from by simp only [show (1 : Int32) = nI 1 from rfl, nI_add]]
  refine fr_s 4 (pc' := 4) (lc' := [(2, .int 16), (0, .ref 0), (1, .int v)]) (stk' := [.int 16]) (mem' := fm (upd g 10 (nI (s + 1))) tp bt (fm_u a 6 s w0) b) (by intro _ _ _; eq_refl) ?_
  refine fr_s 1 (pc' := cond (fx_cb .lt 16 0) 36 7) (lc' := [(2, .int 16), (0, .ref 0), (1, .int v)]) (stk' := []) (mem' := fm (upd g 10 (nI (s + 1))) tp bt (fm_u a 6 s w0) b) (by intro _ _ _; eq_refl) ?_
  rw [show fx_cb .lt 16 0 = false from by decide]
  dsimp only [cond]
  refine fr_s 8 (pc' := 19) (lc' := [(2, .int 16), (0, .ref 0), (1, .int v)]) (stk' := [.int ((v >>> ((16 : Int32) &&& 31)).toInt8.toInt32), .int (nI (s + 1)), .ref 6]) (mem' := fm (upd g 10 (nI (s + 1))) tp bt (fm_u a 6 s w0) b) (by intro _ _ _; eq_refl) ?_
  refine fr_1 (fun _ _ => fx_stB (mem' := fm (upd g 10 (nI (s + 1))) tp bt (fm_u (fm_u a 6 s w0) 6 (nI (s + 1) : Int32).toNatClampNeg (((v >>> ((16 : Int32) &&& 31)).toInt8.toInt32).toInt8.toInt32)) b) (by rfl) (by rfl) (fx_inN (i := (s + 1)) (by omega) (by omega)) fm_sb6) ?_
  rw [show Int32.toNatClampNeg (nI (s + 1)) = (s + 1) from nI_clamp (by omega), show ((v >>> ((16 : Int32) &&& 31)).toInt8.toInt32).toInt8.toInt32 = w1 from e1]
  refine fr_s 5 (pc' := 27) (lc' := [(2, .int 16), (0, .ref 0), (1, .int v)]) (stk' := [.int (nI (s + 1) + 1), .ref 0]) (mem' := fm (upd g 10 (nI (s + 1))) tp bt (fm_u (fm_u a 6 s w0) 6 (s + 1) w1) b) (by intro _ _ _; eq_refl) ?_
  rw [show (nI (s + 1) + 1 : Int32) = nI (s + 2) from by simp only [show (1 : Int32) = nI 1 from rfl, nI_add]]
  refine fr_s 4 (pc' := 4) (lc' := [(2, .int 8), (0, .ref 0), (1, .int v)]) (stk' := [.int 8]) (mem' := fm (upd (upd g 10 (nI (s + 1))) 10 (nI (s + 2))) tp bt (fm_u (fm_u a 6 s w0) 6 (s + 1) w1) b) (by intro _ _ _; eq_refl) ?_
  refine fr_s 1 (pc' := cond (fx_cb .lt 8 0) 36 7) (lc' := [(2, .int 8), (0, .ref 0), (1, .int v)]) (stk' := []) (mem' := fm (upd (upd g 10 (nI (s + 1))) 10 (nI (s + 2))) tp bt (fm_u (fm_u a 6 s w0) 6 (s + 1) w1) b) (by intro _ _ _; eq_refl) ?_
  rw [show fx_cb .lt 8 0 = false from by decide]
  dsimp only [cond]
  refine fr_s 8 (pc' := 19) (lc' := [(2, .int 8), (0, .ref 0), (1, .int v)]) (stk' := [.int ((v >>> ((8 : Int32) &&& 31)).toInt8.toInt32), .int (nI (s + 2)), .ref 6]) (mem' := fm (upd (upd g 10 (nI (s + 1))) 10 (nI (s + 2))) tp bt (fm_u (fm_u a 6 s w0) 6 (s + 1) w1) b) (by intro _ _ _; eq_refl) ?_
  refine fr_1 (fun _ _ => fx_stB (mem' := fm (upd (upd g 10 (nI (s + 1))) 10 (nI (s + 2))) tp bt (fm_u (fm_u (fm_u a 6 s w0) 6 (s + 1) w1) 6 (nI (s + 2) : Int32).toNatClampNeg (((v >>> ((8 : Int32) &&& 31)).toInt8.toInt32).toInt8.toInt32)) b) (by rfl) (by rfl) (fx_inN (i := (s + 2)) (by omega) (by omega)) fm_sb6) ?_
  rw [show Int32.toNatClampNeg (nI (s + 2)) = (s + 2) from nI_clamp (by omega), show ((v >>> ((8 : Int32) &&& 31)).toInt8.toInt32).toInt8.toInt32 = w2 from e2]
  refine fr_s 5 (pc' := 27) (lc' := [(2, .int 8), (0, .ref 0), (1, .int v)]) (stk' := [.int (nI (s + 2) + 1), .ref 0]) (mem' := fm (upd (upd g 10 (nI (s + 1))) 10 (nI (s + 2))) tp bt (fm_u (fm_u (fm_u a 6 s w0) 6 (s + 1) w1) 6 (s + 2) w2) b) (by intro _ _ _; eq_refl) ?_
  rw [show (nI (s + 2) + 1 : Int32) = nI (s + 3) from by simp only [show (1 : Int32) = nI 1 from rfl, nI_add]]
  refine fr_s 4 (pc' := 4) (lc' := [(2, .int 0), (0, .ref 0), (1, .int v)]) (stk' := [.int 0]) (mem' := fm (upd (upd (upd g 10 (nI (s + 1))) 10 (nI (s + 2))) 10 (nI (s + 3))) tp bt (fm_u (fm_u (fm_u a 6 s w0) 6 (s + 1) w1) 6 (s + 2) w2) b) (by intro _ _ _; eq_refl) ?_
  refine fr_s 1 (pc' := cond (fx_cb .lt 0 0) 36 7) (lc' := [(2, .int 0), (0, .ref 0), (1, .int v)]) (stk' := []) (mem' := fm (upd (upd (upd g 10 (nI (s + 1))) 10 (nI (s + 2))) 10 (nI (s + 3))) tp bt (fm_u (fm_u (fm_u a 6 s w0) 6 (s + 1) w1) 6 (s + 2) w2) b) (by intro _ _ _; eq_refl) ?_
  rw [show fx_cb .lt 0 0 = false from by decide]
  dsimp only [cond]
  refine fr_s 8 (pc' := 19) (lc' := [(2, .int 0), (0, .ref 0), (1, .int v)]) (stk' := [.int ((v >>> ((0 : Int32) &&& 31)).toInt8.toInt32), .int (nI (s + 3)), .ref 6]) (mem' := fm (upd (upd (upd g 10 (nI (s + 1))) 10 (nI (s + 2))) 10 (nI (s + 3))) tp bt (fm_u (fm_u (fm_u a 6 s w0) 6 (s + 1) w1) 6 (s + 2) w2) b) (by intro _ _ _; eq_refl) ?_
  refine fr_1 (fun _ _ => fx_stB (mem' := fm (upd (upd (upd g 10 (nI (s + 1))) 10 (nI (s + 2))) 10 (nI (s + 3))) tp bt (fm_u (fm_u (fm_u (fm_u a 6 s w0) 6 (s + 1) w1) 6 (s + 2) w2) 6 (nI (s + 3) : Int32).toNatClampNeg (((v >>> ((0 : Int32) &&& 31)).toInt8.toInt32).toInt8.toInt32)) b) (by rfl) (by rfl) (fx_inN (i := (s + 3)) (by omega) (by omega)) fm_sb6) ?_
  rw [show Int32.toNatClampNeg (nI (s + 3)) = (s + 3) from nI_clamp (by omega), show ((v >>> ((0 : Int32) &&& 31)).toInt8.toInt32).toInt8.toInt32 = w3 from e3]
  refine fr_s 5 (pc' := 27) (lc' := [(2, .int 0), (0, .ref 0), (1, .int v)]) (stk' := [.int (nI (s + 3) + 1), .ref 0]) (mem' := fm (upd (upd (upd g 10 (nI (s + 1))) 10 (nI (s + 2))) 10 (nI (s + 3))) tp bt (fm_u (fm_u (fm_u (fm_u a 6 s w0) 6 (s + 1) w1) 6 (s + 2) w2) 6 (s + 3) w3) b) (by intro _ _ _; eq_refl) ?_
  rw [show (nI (s + 3) + 1 : Int32) = nI (s + 4) from by simp only [show (1 : Int32) = nI 1 from rfl, nI_add]]
  refine fr_s 4 (pc' := 4) (lc' := [(2, .int (-8)), (0, .ref 0), (1, .int v)]) (stk' := [.int (-8)]) (mem' := fm (upd (upd (upd (upd g 10 (nI (s + 1))) 10 (nI (s + 2))) 10 (nI (s + 3))) 10 (nI (s + 4))) tp bt (fm_u (fm_u (fm_u (fm_u a 6 s w0) 6 (s + 1) w1) 6 (s + 2) w2) 6 (s + 3) w3) b) (by intro _ _ _; eq_refl) ?_
  refine fr_s 1 (pc' := cond (fx_cb .lt (-8) 0) 36 7) (lc' := [(2, .int (-8)), (0, .ref 0), (1, .int v)]) (stk' := []) (mem' := fm (upd (upd (upd (upd g 10 (nI (s + 1))) 10 (nI (s + 2))) 10 (nI (s + 3))) 10 (nI (s + 4))) tp bt (fm_u (fm_u (fm_u (fm_u a 6 s w0) 6 (s + 1) w1) 6 (s + 2) w2) 6 (s + 3) w3) b) (by intro _ _ _; eq_refl) ?_
  rw [show fx_cb .lt (-8) 0 = true from by decide]
  dsimp only [cond]
  exact fr_ret (by rfl) (by rfl) (by rfl)
theorem ma_feed {v0 v1 v2 v3 v4 : Int32} (h2 : g 10 = nI s) (hs : s ≤ 880) : ∃ (g' : Nat → Int32) (a' : Nat → Nat → Int32), fr_T 2 219 [.ref 0, .int v0, .int v1, .int v2, .int v3, .int v4] (fm g tp bt a b) (some (.int (nI (s + 20)))) (fm g' tp bt a' b) ∧ g' 10 = nI (s + 20) ∧ (∀ i, i ≠ 10 → g' i = g i) ∧ a' 6 = t20 (a 6) s v0 v1 v2 v3 v4 ∧ ∀ j, j ≠ 6 → a' j = a j := by
  obtain ⟨g1, a1, r1, p1, f1, q1, e1⟩ := ma_four (g := g) (tp := tp) (bt := bt) (a := a) (b := b) (v := v0) h2 (by omega)
  obtain ⟨g2, a2, r2, p2, f2, q2, e2⟩ := ma_four (tp := tp) (bt := bt) (a := a1) (b := b) (v := v1) p1 (by omega)
  obtain ⟨g3, a3, r3, p3, f3, q3, e3⟩ := ma_four (tp := tp) (bt := bt) (a := a2) (b := b) (v := v2) p2 (by omega)
  obtain ⟨g4, a4, r4, p4, f4, q4, e4⟩ := ma_four (tp := tp) (bt := bt) (a := a3) (b := b) (v := v3) p3 (by omega)
  obtain ⟨g5, a5, r5, p5, f5, q5, e5⟩ := ma_four (tp := tp) (bt := bt) (a := a4) (b := b) (v := v4) p4 (by omega)
  refine ⟨g5, a5, fr_meth (by rfl) (by rfl) ?_, p5, fun i hi => by rw [f5 i hi, f4 i hi, f3 i hi, f2 i hi, f1 i hi], by rw [q5, q4, q3, q2, q1]; rfl, fun j hj => by rw [e5 j hj, e4 j hj, e3 j hj, e2 j hj, e1 j hj]⟩
  refine fr_s 5 (pc' := 10) (lc' := [(0, .ref 0), (1, .int v0), (2, .int v1), (3, .int v2), (4, .int v3), (5, .int v4)]) (stk' := [.int 900, .int (g 10 + 20)]) (mem' := fm g tp bt a b) (by intro _ _ _; eq_refl) ?_
  rw [h2, show (nI s + 20 : Int32) = nI (s + 20) from by simp only [show (20 : Int32) = nI 20 from rfl, nI_add]]
  refine fr_s 1 (pc' := cond (fx_cb .le (nI (s + 20)) 900) 15 13) (lc' := [(0, .ref 0), (1, .int v0), (2, .int v1), (3, .int v2), (4, .int v3), (5, .int v4)]) (stk' := []) (mem' := fm g tp bt a b) (by intro _ _ _; eq_refl) ?_
  rw [show fx_cb .le (nI (s + 20)) 900 = true from cb_leT (a := s + 20) (b := 900) (by omega) (by omega) (by omega)]
  dsimp only [cond]
  refine fr_s 2 (pc' := 17) (lc' := [(0, .ref 0), (1, .int v0), (2, .int v1), (3, .int v2), (4, .int v3), (5, .int v4)]) (stk' := [.int v0, .ref 0]) (mem' := fm g tp bt a b) (by intro _ _ _; eq_refl) ?_
  refine fr_ivV r1 (by omega) (by rfl) (by rfl) (by rfl) (by rfl) (by rfl) (by rfl) ?_
  refine fr_s 2 (pc' := 22) (lc' := [(0, .ref 0), (1, .int v0), (2, .int v1), (3, .int v2), (4, .int v3), (5, .int v4)]) (stk' := [.int v1, .ref 0]) (mem' := fm g1 tp bt a1 b) (by intro _ _ _; eq_refl) ?_
  refine fr_ivV r2 (by omega) (by rfl) (by rfl) (by rfl) (by rfl) (by rfl) (by rfl) ?_
  refine fr_s 2 (pc' := 27) (lc' := [(0, .ref 0), (1, .int v0), (2, .int v1), (3, .int v2), (4, .int v3), (5, .int v4)]) (stk' := [.int v2, .ref 0]) (mem' := fm g2 tp bt a2 b) (by intro _ _ _; eq_refl) ?_
  refine fr_ivV r3 (by omega) (by rfl) (by rfl) (by rfl) (by rfl) (by rfl) (by rfl) ?_
  refine fr_s 2 (pc' := 33) (lc' := [(0, .ref 0), (1, .int v0), (2, .int v1), (3, .int v2), (4, .int v3), (5, .int v4)]) (stk' := [.int v3, .ref 0]) (mem' := fm g3 tp bt a3 b) (by intro _ _ _; eq_refl) ?_
  refine fr_ivV r4 (by omega) (by rfl) (by rfl) (by rfl) (by rfl) (by rfl) (by rfl) ?_
  refine fr_s 2 (pc' := 39) (lc' := [(0, .ref 0), (1, .int v0), (2, .int v1), (3, .int v2), (4, .int v3), (5, .int v4)]) (stk' := [.int v4, .ref 0]) (mem' := fm g4 tp bt a4 b) (by intro _ _ _; eq_refl) ?_
  refine fr_ivV r5 (by omega) (by rfl) (by rfl) (by rfl) (by rfl) (by rfl) (by rfl) ?_
  refine fr_s 2 (pc' := 46) (lc' := [(0, .ref 0), (1, .int v0), (2, .int v1), (3, .int v2), (4, .int v3), (5, .int v4)]) (stk' := [.int (g5 10)]) (mem' := fm g5 tp bt a5 b) (by intro _ _ _; eq_refl) ?_
  rw [p5]
  exact fr_ret (by rfl) (by rfl) (by rfl)
theorem ma_feedN {v0 v1 v2 v3 v4 : Int32} (h2 : g 10 = nI s) (hs : 880 < s) (hs9 : s ≤ 900) : fr_T 2 219 [.ref 0, .int v0, .int v1, .int v2, .int v3, .int v4] (fm g tp bt a b) (some (.int (-1))) (fm g tp bt a b) := by
  refine fr_meth (by rfl) (by rfl) ?_
  refine fr_s 5 (pc' := 10) (lc' := [(0, .ref 0), (1, .int v0), (2, .int v1), (3, .int v2), (4, .int v3), (5, .int v4)]) (stk' := [.int 900, .int (g 10 + 20)]) (mem' := fm g tp bt a b) (by intro _ _ _; eq_refl) ?_
  rw [h2, show (nI s + 20 : Int32) = nI (s + 20) from by simp only [show (20 : Int32) = nI 20 from rfl, nI_add]]
  refine fr_s 1 (pc' := cond (fx_cb .le (nI (s + 20)) 900) 15 13) (lc' := [(0, .ref 0), (1, .int v0), (2, .int v1), (3, .int v2), (4, .int v3), (5, .int v4)]) (stk' := []) (mem' := fm g tp bt a b) (by intro _ _ _; eq_refl) ?_
  rw [show fx_cb .le (nI (s + 20)) 900 = false from cb_leF (a := s + 20) (b := 900) (by omega) (by omega) (by omega)]
  dsimp only [cond]
  refine fr_s 1 (pc' := 14) (lc' := [(0, .ref 0), (1, .int v0), (2, .int v1), (3, .int v2), (4, .int v3), (5, .int v4)]) (stk' := [.int (-1)]) (mem' := fm g tp bt a b) (by intro _ _ _; eq_refl) ?_
  exact fr_ret (by rfl) (by rfl) (by rfl)
end TAM
end MH22_0
section MH22_1
/-! ===== the tape in both worlds: feed, lake, tales ===== -/
/-- how many bytes, and which -/
def tp_V (zl : Nat × Nat) (ja : Nat) (ws : va_W) (s : Nat) (f : Nat → Int32) : Prop := s ≤ 900 ∧ lw_at ws zl = some (.int (nI s)) ∧ ∀ i, i < 900 → lw_at ws (ja, i) = some (.int (f i))
abbrev tp_S : Type := List Value → Nat → (Nat → Int32) → Nat → (Nat → Int32) → Value → Prop
def tp_Q (zl : Nat × Nat) (ja : Nat) (S : tp_S) : List Value → va_W → va_W → Value → Prop := fun av ws ws' v => ∃ (s : Nat) (f : Nat → Int32) (s' : Nat) (f' : Nat → Int32), tp_V zl ja ws s f ∧ tp_V zl ja ws' s' f' ∧ S av s f s' f' v
def fe_S : tp_S := fun av s f s' f' v => ∃ v0 v1 v2 v3 v4 : Int32, av = [.int v0, .int v1, .int v2, .int v3, .int v4] ∧ ((s ≤ 880 ∧ s' = s + 20 ∧ v = .int (nI (s + 20)) ∧ ∀ i, i < 900 → f' i = t20 f s v0 v1 v2 v3 v4 i) ∨ (880 < s ∧ s' = s ∧ v = .int (-1) ∧ ∀ i, i < 900 → f' i = f i))
/-- what lake() answers -/
def sp_ans (r : sp_R) : Int32 := match r with
  | .inl _ => -1
  | .inr z => nI z.1.1.1.length
def la_S : tp_S := fun av s f s' f' v => ∃ n : Int32, av = [.int n] ∧ (∀ i, i < 900 → f' i = f i) ∧ ((¬ (0 ≤ n.toInt ∧ n.toInt ≤ (s : Int)) ∧ s' = s ∧ v = .int (-1)) ∨ ∃ N, n = nI N ∧ N ≤ s ∧ s' = 0 ∧ v = .int (sp_ans (sp_lake (sp_T f N) N)))
def ta_S : tp_S := fun av s f s' f' v => ∃ n : Int32, av = [.int n] ∧ lr_ty 0 v ∧ (∀ i, i < 900 → f' i = f i) ∧ ((¬ (0 ≤ n.toInt ∧ n.toInt ≤ (s : Int) ∧ n.toInt ≤ 300) ∧ s' = s) ∨ ((0 ≤ n.toInt ∧ n.toInt ≤ (s : Int) ∧ n.toInt ≤ 300) ∧ s' = 0))
/-- what binds the tapes -/
def tp_R (c m : va_W) : Prop := ∃ (s : Nat) (f h : Nat → Int32), tp_V (9, 2) 10 c s f ∧ tp_V (0, 10) 6 m s h ∧ ∀ i, i < s → f i = h i
section TPR
variable {zl : Nat × Nat} {ja : Nat} {ws c m : va_W} {s s2 s' s2' : Nat} {f f2 f' f2' h h' : Nat → Int32} {u w : Value} {av : List Value}
theorem tp_V_un (h1 : tp_V zl ja ws s f) (h2 : tp_V zl ja ws s2 f2) : s = s2 ∧ ∀ i, i < 900 → f i = f2 i := by
  obtain ⟨a1, a2, a3⟩ := h1
  obtain ⟨b1, b2, b3⟩ := h2
  refine ⟨nI_injS (by omega) (by omega) (a2.symm.trans b2), fun i hi => ?_⟩
  have e := (a3 i hi).symm.trans (b3 i hi)
  exact Value.int.inj (Option.some.inj e)
theorem tp_get (hR : tp_R c m) (h1 : tp_V (9, 2) 10 c s f) (h2 : tp_V (0, 10) 6 m s2 h) : s = s2 ∧ ∀ i, i < s → f i = h i := by
  obtain ⟨s0, f0, h0, a1, a2, a3⟩ := hR
  obtain ⟨e1, e2⟩ := tp_V_un h1 a1
  obtain ⟨e3, e4⟩ := tp_V_un h2 a2
  subst e1
  refine ⟨e3.symm, fun i hi => ?_⟩
  have := h1.1
  rw [e2 i (by omega), e4 i (by omega)]
  exact a3 i hi
theorem fe_int {c0 c1 : va_W} {v : Value} (h : tp_Q zl ja fe_S av c0 c1 v) : lr_ty 0 v := by
  obtain ⟨s, f, s', f', -, -, v0, v1, v2, v3, v4, -, ⟨-, -, rfl, -⟩ | ⟨-, -, rfl, -⟩⟩ := h
  · exact ⟨_, rfl⟩
  · exact ⟨_, rfl⟩
theorem la_int {c0 c1 : va_W} {v : Value} (h : tp_Q zl ja la_S av c0 c1 v) : lr_ty 0 v := by
  obtain ⟨s, f, s', f', -, -, n, -, -, ⟨-, -, rfl⟩ | ⟨N, -, -, -, rfl⟩⟩ := h
  · exact ⟨_, rfl⟩
  · exact ⟨_, rfl⟩
theorem ta_int {c0 c1 : va_W} {v : Value} (h : tp_Q zl ja ta_S av c0 c1 v) : lr_ty 0 v := by
  obtain ⟨s, f, s', f', -, -, n, -, hv, -⟩ := h
  exact hv
theorem fe_rel {c0 c1 m0 m1 : va_W} (hR : tp_R c0 m0) (h1 : tp_Q (9, 2) 10 fe_S av c0 c1 u) (h2 : tp_Q (0, 10) 6 fe_S av m0 m1 w) : u = w ∧ tp_R c1 m1 := by
  obtain ⟨s, f, s', f', a1, a2, v0, v1, v2, v3, v4, rfl, a3⟩ := h1
  obtain ⟨s2, f2, s2', f2', b1, b2, x0, x1, x2, x3, x4, e, b3⟩ := h2
  cases e
  obtain ⟨rfl, hf⟩ := tp_get hR a1 b1
  rcases a3 with ⟨p1, rfl, rfl, p4⟩ | ⟨p1, rfl, rfl, p4⟩ <;> rcases b3 with ⟨q1, rfl, rfl, q4⟩ | ⟨q1, rfl, rfl, q4⟩
  · refine ⟨rfl, _, f', f2', a2, b2, fun i hi => ?_⟩
    rw [p4 i (by omega), q4 i (by omega)]
    exact t20_eq hf i hi
  · omega
  · omega
  · refine ⟨rfl, _, f', f2', a2, b2, fun i hi => ?_⟩
    have := a1.1
    rw [p4 i (by omega), q4 i (by omega)]
    exact hf i hi
theorem la_rel {c0 c1 m0 m1 : va_W} (hR : tp_R c0 m0) (h1 : tp_Q (9, 2) 10 la_S av c0 c1 u) (h2 : tp_Q (0, 10) 6 la_S av m0 m1 w) : u = w ∧ tp_R c1 m1 := by
  obtain ⟨s, f, s', f', a1, a2, n, rfl, a0, a3⟩ := h1
  obtain ⟨s2, f2, s2', f2', b1, b2, n2, e, b0, b3⟩ := h2
  cases e
  obtain ⟨rfl, hf⟩ := tp_get hR a1 b1
  have h9 := a1.1
  rcases a3 with ⟨p1, rfl, rfl⟩ | ⟨N, rfl, p2, rfl, rfl⟩ <;> rcases b3 with ⟨q1, rfl, rfl⟩ | ⟨N2, e, q2, rfl, rfl⟩
  · refine ⟨rfl, _, f', f2', a2, b2, fun i hi => ?_⟩
    rw [a0 i (by omega), b0 i (by omega)]
    exact hf i hi
  · subst e
    exact absurd ⟨by rw [nI_i32 (by omega)]; omega, by rw [nI_i32 (by omega)]; omega⟩ p1
  · exact absurd ⟨by rw [nI_i32 (by omega)]; omega, by rw [nI_i32 (by omega)]; omega⟩ q1
  · have e2 : N = N2 := nI_injS (by omega) (by omega) (by rw [e])
    subst e2
    rw [sp_T_eq (f := f) (f' := f2) (n := N) (fun k hk => hf k (by omega))]
    exact ⟨rfl, 0, f', f2', a2, b2, fun i hi => absurd hi (Nat.not_lt_zero i)⟩
theorem ta_rel {c0 c1 m0 m1 : va_W} (hR : tp_R c0 m0) (h1 : tp_Q (9, 2) 10 ta_S av c0 c1 u) (h2 : tp_Q (0, 10) 6 ta_S av m0 m1 w) : tp_R c1 m1 := by
  obtain ⟨s, f, s', f', a1, a2, n, rfl, -, a0, a3⟩ := h1
  obtain ⟨s2, f2, s2', f2', b1, b2, n2, e, -, b0, b3⟩ := h2
  cases e
  obtain ⟨rfl, hf⟩ := tp_get hR a1 b1
  have h9 := a1.1
  rcases a3 with ⟨p1, rfl⟩ | ⟨p1, rfl⟩ <;> rcases b3 with ⟨q1, rfl⟩ | ⟨q1, rfl⟩
  · refine ⟨_, f', f2', a2, b2, fun i hi => ?_⟩
    rw [a0 i (by omega), b0 i (by omega)]
    exact hf i hi
  · exact absurd q1 p1
  · exact absurd p1 q1
  · exact ⟨0, f', f2', a2, b2, fun i hi => absurd hi (Nat.not_lt_zero i)⟩
def tp_WC : List (Nat × Nat) := (9, 2) :: (List.range 900).map (fun i => (10, i))
def tp_WM : List (Nat × Nat) := (0, 10) :: (List.range 900).map (fun i => (6, i))
theorem tp_V_keep {ws' : va_W} (hV : tp_V zl ja ws s f) (hk : ∀ z ∈ zl :: (List.range 900).map (fun i => (ja, i)), lw_at ws' z = lw_at ws z) : tp_V zl ja ws' s f := ⟨hV.1, (hk _ List.mem_cons_self).trans hV.2.1, fun i hi => (hk _ (List.mem_cons_of_mem _ (List.mem_map.mpr ⟨i, List.mem_range.mpr hi, rfl⟩))).trans (hV.2.2 i hi)⟩
theorem tp_un {c0 c1 m0 m1 : va_W} (hR : tp_R c0 m0) (hC : ∀ z ∈ tp_WC, lw_at c1 z = lw_at c0 z) (hM : ∀ z ∈ tp_WM, lw_at m1 z = lw_at m0 z) : tp_R c1 m1 := by
  obtain ⟨s, f, h, a1, a2, a3⟩ := hR
  exact ⟨s, f, h, tp_V_keep a1 hC, tp_V_keep a2 hM, a3⟩
end TPR
/-- the reserved words, as they stand in the class's world -/
def rwC (ws : va_W) : Prop := ∀ (k : Nat) (w : List Nat), sp_KW[k]? = some w → lw_at ws (11, k) = some (.long (Int64.ofNat (sp_cd w)))
/-- the references and the reserved words stand -/
def h2_X (ws : va_W) : Prop := hg_X ws ∧ rwC ws
def h2_W : List (Nat × Nat) := gs_L.map (fun z => (z.1, z.2.1)) ++ (List.range 23).map (fun i => (11, i))
theorem lw_sem_h2 {l : Launch} {D : va_G} {xt : tk_XT} {ads : List Nat} {d f : Nat} {kinds : List Nat} {envs : List tk_I} {Q : List Value → va_W → va_W → Value → Prop} (h : lw_sem l D xt gc_TY (gc_X lw_twC) ads lw_twC d f kinds envs Q) (hQ : ∀ av ws ws' v, Q av ws ws' v → ∀ z ∈ h2_W, lw_at ws' z = lw_at ws z) : lw_sem l D xt gc_TY h2_X ads lw_twC d f kinds envs Q := by
  have h0 := lw_sem_gs h (fun av ws ws' v hq z hz => hQ av ws ws' v hq _ (List.mem_append_left _ (List.mem_map.mpr ⟨z, hz, rfl⟩)))
  intro q hq
  obtain ⟨M, h1, h2, h3⟩ := h0 q hq
  refine ⟨M, h1, h2, fun ax ws av sz a1 a2 a3 a4 => rk_Met_case (fun aU U hP => ?_)⟩
  obtain ⟨p1, p2, p3, p4, p5, p6, p7, p8, p10⟩ := hP
  refine ⟨_, _, h3 ax ws av sz a1 a2 a3 a4, ⟨p1, p2, p3, p4, p5, p6, p7, p8, p10.1⟩, ?_⟩
  rintro oc t - ⟨⟨ws', v, b1, b2, b3, b4, b5, b6, b7⟩, hF⟩
  refine ⟨⟨ws', v, b1, b2, b3, b4, ⟨b5, fun k w hw => ?_⟩, b6, b7⟩, hF⟩
  rw [hQ _ _ _ _ b6 (11, k) (List.mem_append_right _ (List.mem_map.mpr ⟨k, List.mem_range.mpr (List.getElem?_eq_some_iff.mp hw).1, rfl⟩))]
  exact p10.2 k w hw
theorem hc_bdB {ads : List Nat} {U : State} {ws : va_W} (h5 : rk_A2 (fun b (q : Nat × va_E) => tk_cl gc_TY lc_ro ads lw_twC U b q.2) lw_twC ws) {j t n : Nat} {lo hi : Int} (ht : lw_twC[j]? = some t) (hk : gc_ty[t]? = some (.inr (.byte, n, (0, lo, hi)))) : ∀ i, i < n → lo ≤ (ca ws j i).toInt ∧ (ca ws j i).toInt ≤ hi := by
  obtain ⟨q, hq, hc⟩ := h5.get ht
  unfold tk_cl at hc
  rw [show gc_TY.1[t]? = _ from hk] at hc
  obtain ⟨cA, -, -, h3⟩ := hc
  obtain ⟨f, e, h3⟩ := (show ∃ f : Nat → Int32, q.2 = .inl (cA, n, .inl f) ∧ ∀ i, i < n → tk_fv lc_ro gc_TY.2.1 ads lw_twC t i (0, lo, hi) (.int (f i)) from h3)
  have e2 : ca ws j = f := by
    unfold ca
    rw [hq, show q = (q.1, q.2) from rfl, e]
  intro i hlt
  obtain ⟨x, hx, h1, h2⟩ := (show ∃ x : Int32, Value.int (f i) = .int x ∧ lo ≤ x.toInt ∧ x.toInt ≤ hi from h3 i hlt)
  cases hx
  rw [e2]
  exact ⟨h1, h2⟩
section TPS
variable {l : Launch} {D : va_G} {xt : tk_XT} {ads : List Nat}
/-- a call of the class, told of the tape -/
theorem tp_semC (hxt : tk_xtok xt) {k f : Nat} {kinds : List Nat} {envs : List tk_I} {S : tp_S} {Q0 : List Value → va_W → va_W → Value → Prop} (hd : k + 4 ≤ 20) (hK : lw_sem l D xt gc_TY h2_X ads lw_twC 20 f kinds envs Q0)
    (hex : ∀ (rest : List Value) (g : Nat → Nat → Int32) (l' : Nat → Nat → Int64) (a : Nat → Nat → Int32) (b : Nat → Nat → Int64) (R : fx_M) (s : Nat), rk_A2 lq_av (kinds.zip envs) rest → s ≤ 900 → g 9 2 = nI s → (∀ i, i < 900 → (-128 : Int) ≤ (a 10 i).toInt ∧ (a 10 i).toInt ≤ 127) → cr (b 11) → ∃ (v : Value) (g' : Nat → Nat → Int32) (l'' : Nat → Nat → Int64) (a' : Nat → Nat → Int32) (b' : Nat → Nat → Int64) (s' : Nat), fx_kd v ≤ 1 ∧ hr_T k f (.ref 0 :: rest) (cm g l' a b R) (some v) (cm g' l'' a' b' R) ∧ s' ≤ 900 ∧ g' 9 2 = nI s' ∧ S rest s (a 10) s' (a' 10) v) : lw_sem l D xt gc_TY h2_X ads lw_twC 20 f kinds envs (tp_Q (9, 2) 10 S) := by
  refine lw_sem_imp (hc_sem2 (Q1 := fun rest ws mem' v => ∃ (s : Nat) (f0 : Nat → Int32) (s' : Nat) (f' : Nat → Int32) (vs : List Value), tp_V (9, 2) 10 ws s f0 ∧ s' ≤ 900 ∧ mem'[9]? = some (.inl (8, vs)) ∧ vs.length = 12 ∧ vs[2]? = some (.int (nI s')) ∧ mem'[10]? = some (.inr (.byte, 900, .inl f')) ∧ S rest s f0 s' f' v) hxt hd hK (fun U ax rest ws hty hrest h5 h4 hD hX => ?_)) ?_
  · obtain ⟨e, e2, yr, s, hw, hat, hty2, hw2, hs, hat2⟩ := fd_wC hty h4 h5
    have hcm := hc_cm h4 h5 hD hX.1.2
    generalize (hc_mem ads lw_twC ws).drop 67 = R0 at hcm
    have hl : ws.length = lw_twC.length := h5.len.symm
    have gq : ∀ j, j < 67 → ∃ q, ws[j]? = some q := fun j hj => ⟨_, List.getElem?_eq_getElem (by rw [hl, lw_lenC]; omega)⟩
    obtain ⟨q9, k9⟩ := gq 9 (by decide)
    obtain ⟨q10, k10⟩ := gq 10 (by decide)
    obtain ⟨q11, k11⟩ := gq 11 (by decide)
    have m9 := hw_at0 (i := 2) h4 h5 k9 (by rw [hcm]; rfl)
    have m10 := fun i => hw_at0 (i := i) h4 h5 k10 (by rw [hcm]; rfl)
    have m11 := fun i => hw_at0 (i := i) h4 h5 k11 (by rw [hcm]; rfl)
    have e9 : cg ws 9 2 = nI s := by
      have h9 : lw_at ws (9, 2) = some (.int (cg ws 9 2)) := m9
      rw [hat2] at h9
      exact (Value.int.inj (Option.some.inj h9)).symm
    have e10 : ∀ i, i < 900 → lw_at ws (10, i) = some (.int (ca ws 10 i)) := fun i hi => by
      rw [m10 i]
      show (if i < 900 then some (Value.int (ca ws 10 i)) else none) = _
      rw [if_pos hi]
    have e11 : cr (cb ws 11) := fun k w hw => by
      have hk : k < 23 := (List.getElem?_eq_some_iff.mp hw).1
      have h1 := hX.2 k w hw
      rw [m11 k] at h1
      have h1 : (if k < 23 then some (Value.long (cb ws 11 k)) else none) = _ := h1
      rw [if_pos hk] at h1
      exact Value.long.inj (Option.some.inj h1)
    have b10 := hc_bdB h5 (show lw_twC[10]? = some 7 by decide +kernel) rfl
    obtain ⟨v, g', l'', a', b', s', z1, z2, z3, z4, z5⟩ := hex rest (cg ws) (cl_ ws) (ca ws) (cb ws) R0 s hrest hs e9 b10 e11
    exact ⟨v, cm g' l'' a' b' R0, z1, by rw [hcm]; exact z2, s, ca ws 10, s', a' 10, co9 (g' 9) (l'' 9), ⟨hs, hat2, e10⟩, z3, rfl, rfl, by show some (Value.int (g' 9 2)) = _; rw [z4], rfl, z5⟩
  · rintro av ws ws' v - ⟨-, mem', ⟨s, f0, s', f', vs, h1, h2, h3, h4, h5, h6, h7⟩, h8⟩
    exact ⟨s, f0, s', f', h1, ⟨h2, hc_two_O h8 (show lw_twC[9]? = some 6 by decide +kernel) rfl rfl rfl h4 h3 h5 (Nat.zero_le 1), fun i hi => hc_two_I h8 (show lw_twC[10]? = some 7 by decide +kernel) rfl (Or.inr rfl) h6 i hi⟩, h7⟩
/-- a call of the model -/
theorem tp_semM (hst : ∀ (Ad : Nat → Prop) (U : State) (H : Heap), xt Ad U H → ∃ pl v tx, sk_X pl v Ad U H ∧ vk_R "GooseIceModel" 189 tx pl U) {k f n : Nat} {mods : List (Nat × Nat)} (hM : fm_ms mods) {S : tp_S}
    (hex : ∀ (g : Nat → Int32) (tp bt : Int64) (a : Nat → Nat → Int32) (b : Nat → Nat → Int64) (xs : List Int32) (s : Nat), xs.length = n → fm_I g a → s ≤ 900 → g 10 = nI s → ∃ (v : Int32) (g' : Nat → Int32) (tp' bt' : Int64) (a' : Nat → Nat → Int32) (b' : Nat → Nat → Int64) (s' : Nat), fr_T k f (.ref 0 :: xs.map Value.int) (fm g tp bt a b) (some (.int v)) (fm g' tp' bt' a' b') ∧ fm_I g' a' ∧ fm_ffr mods g a b g' a' b' ∧ s' ≤ 900 ∧ g' 10 = nI s' ∧ S (xs.map Value.int) s (a 6) s' (a' 6) (.int v)) : lw_sem l D xt gn_TY (gn_X lw_twM) ads lw_twM (k + 4) f (List.replicate n 0) (List.replicate n gn_i) (tp_Q (0, 10) 6 S) := by
  refine lw_sem_imp (fm_sem (k := k) (f := f) (n := n) hst gn_fmTy hM (Q := fun xs g _ _ a _ g' _ _ a' _ v => ∃ s s' : Nat, s ≤ 900 ∧ g 10 = nI s ∧ s' ≤ 900 ∧ g' 10 = nI s' ∧ S (xs.map Value.int) s (a 6) s' (a' 6) (.int v)) (fun g tp bt a b xs hx hI => ?_)) ?_
  · obtain ⟨s, hs, es⟩ := fm_I_10 hI
    obtain ⟨v, g', tp', bt', a', b', s', z1, z2, z3, z4, z5, z6⟩ := hex g tp bt a b xs s hx hI hs es
    exact ⟨v, g', tp', bt', a', b', z1, z2, z3, s, s', hs, es, z4, z5, z6⟩
  · rintro av ws ws' v - ⟨xs, g, tp, bt, a, b, g', tp', bt', a', b', x, rfl, rfl, k1, k2, -, -, s, s', z1, z2, z3, z4, z5⟩
    refine ⟨s, a 6, s', a' 6, ⟨z1, ?_, fun i hi => k1.2.1 6 900 _ (a 6) i rfl hi⟩, ⟨z3, ?_, fun i hi => k2.2.1 6 900 _ (a' 6) i rfl hi⟩, z5⟩
    · rw [← z2]; exact k1.1 10 _ rfl (Nat.zero_le 1)
    · rw [← z4]; exact k2.1 10 _ rfl (Nat.zero_le 1)
/-! ===== feed ===== -/
theorem av5 {rest : List Value} (h : rk_A2 lq_av ([0, 0, 0, 0, 0].zip [gn_i, gn_i, gn_i, gn_i, gn_i]) rest) : ∃ v0 v1 v2 v3 v4 : Int32, rest = [.int v0, .int v1, .int v2, .int v3, .int v4] := by
  obtain ⟨x0, r0, rfl, k0⟩ := av_int h
  obtain ⟨x1, r1, rfl, k1⟩ := av_int k0
  obtain ⟨x2, r2, rfl, k2⟩ := av_int k1
  obtain ⟨x3, r3, rfl, k3⟩ := av_int k2
  obtain ⟨x4, r4, rfl, k4⟩ := av_int k3
  obtain rfl := k4.nil
  exact ⟨x0, x1, x2, x3, x4, rfl⟩
theorem fe_semC (hxt : tk_xtok xt) {Q0 : List Value → va_W → va_W → Value → Prop} (hK : lw_sem l D xt gc_TY h2_X ads lw_twC 20 134 [0, 0, 0, 0, 0] [gn_i, gn_i, gn_i, gn_i, gn_i] Q0) : lw_sem l D xt gc_TY h2_X ads lw_twC 20 134 [0, 0, 0, 0, 0] [gn_i, gn_i, gn_i, gn_i, gn_i] (tp_Q (9, 2) 10 fe_S) := by
  refine tp_semC (k := 2) hxt (by decide) hK (fun rest g l' a b R s hr hs hg hb hc => ?_)
  obtain ⟨v0, v1, v2, v3, v4, rfl⟩ := av5 hr
  by_cases h8 : s ≤ 880
  · obtain ⟨g', a', h1, h2, h3, -, -⟩ := ha_feed (g := g) (l := l') (a := a) (b := b) (R := R) (v0 := v0) (v1 := v1) (v2 := v2) (v3 := v3) (v4 := v4) hg h8
    exact ⟨.int (nI (s + 20)), g', l', a', b, s + 20, Nat.zero_le 1, h1, by omega, h2, v0, v1, v2, v3, v4, rfl, Or.inl ⟨h8, rfl, rfl, fun i _ => by rw [h3]⟩⟩
  · exact ⟨.int (-1), g, l', a, b, s, Nat.zero_le 1, ha_feedN hg (by omega) hs, hs, hg, v0, v1, v2, v3, v4, rfl, Or.inr ⟨by omega, rfl, rfl, fun i _ => rfl⟩⟩
def gn_MF : List (Nat × Nat) := (List.range 224).map (fun r => (1, r)) ++ [(0, 3), (0, 4), (0, 10), (6, 0)]
theorem gn_MF_ms : fm_ms gn_MF := ⟨gn_Mr _, List.mem_append_right _ (by decide), List.mem_append_right _ (by decide)⟩
theorem gm_gf10 : ∀ q ∈ gm_gf, q.1 = 10 → q = (10, 0, 900) := by decide
theorem gm_ar6 : ∀ q ∈ gm_ar, q.1 = 6 → q = (6, 900, (-128), 127) := by decide
theorem fe_semM (hst : ∀ (Ad : Nat → Prop) (U : State) (H : Heap), xt Ad U H → ∃ pl v tx, sk_X pl v Ad U H ∧ vk_R "GooseIceModel" 189 tx pl U) : lw_sem l D xt gn_TY (gn_X lw_twM) ads lw_twM 6 219 [0, 0, 0, 0, 0] [gn_i, gn_i, gn_i, gn_i, gn_i] (tp_Q (0, 10) 6 fe_S) := by
  refine tp_semM (k := 2) (n := 5) hst gn_MF_ms (fun g tp bt a b xs s hx hI hs es => ?_)
  obtain ⟨v0, r0, rfl, k0⟩ := fm_xsS hx
  obtain ⟨v1, r1, rfl, k1⟩ := fm_xsS k0
  obtain ⟨v2, r2, rfl, k2⟩ := fm_xsS k1
  obtain ⟨v3, r3, rfl, k3⟩ := fm_xsS k2
  obtain ⟨v4, r4, rfl, k4⟩ := fm_xsS k3
  obtain rfl := List.length_eq_zero_iff.mp k4
  by_cases h8 : s ≤ 880
  · obtain ⟨g', a', h1, h2, h3, h4, h5⟩ := ma_feed (g := g) (tp := tp) (bt := bt) (a := a) (b := b) (v0 := v0) (v1 := v1) (v2 := v2) (v3 := v3) (v4 := v4) es h8
    have hB : fm_B a' := fm_B_eq hI.2.1 (fun i => by rw [h5 1 (by decide)]) (fun i hi => by rw [h5 9 (by decide)]; exact hI.2.1.2.2 i hi)
    have hI2 : fm_I g' a' := ⟨fun q hq => by
      by_cases e : q.1 = 10
      · have e2 := gm_gf10 q hq e
        subst e2
        show (0 : Int) ≤ (g' 10).toInt ∧ (g' 10).toInt ≤ 900
        rw [h2, nI_i32 (by omega)]
        omega
      · rw [h3 q.1 e]
        exact hI.1 q hq, hB, fun q hq i hi => by
      by_cases e : q.1 = 6
      · have e2 := gm_ar6 q hq e
        subst e2
        show (-128 : Int) ≤ (a' 6 i).toInt ∧ (a' 6 i).toInt ≤ 127
        rw [h4]
        exact t20_bd (n := 900) (fun i hi => hI.2.2 (6, 900, (-128), 127) (by decide) i hi) i hi
      · rw [h5 q.1 e]
        exact hI.2.2 q hq i hi⟩
    have hF : fm_ffr gn_MF g a b g' a' b := ⟨fun k => by
      by_cases h : k = 10
      · subst h; exact Or.inl (List.mem_append_right _ (by decide))
      · exact Or.inr (h3 k h), fun t _ => by
      by_cases h : t = 6
      · subst h; exact Or.inl (List.mem_append_right _ (by decide))
      · exact Or.inr (h5 t h), fun t => Or.inr rfl⟩
    exact ⟨nI (s + 20), g', tp, bt, a', b, s + 20, h1, hI2, hF, by omega, h2, v0, v1, v2, v3, v4, rfl, Or.inl ⟨h8, rfl, rfl, fun i _ => by rw [h4]⟩⟩
  · exact ⟨-1, g, tp, bt, a, b, s, ma_feedN es (by omega) hs, hI, ⟨fun k => Or.inr rfl, fun t _ => Or.inr rfl, fun t => Or.inr rfl⟩, hs, es, v0, v1, v2, v3, v4, rfl, Or.inr ⟨by omega, rfl, rfl, fun i _ => rfl⟩⟩
/-! ===== lake ===== -/
theorem la_semC (hxt : tk_xtok xt) {Q0 : List Value → va_W → va_W → Value → Prop} (hK : lw_sem l D xt gc_TY h2_X ads lw_twC 20 135 [0] [gn_i] Q0) : lw_sem l D xt gc_TY h2_X ads lw_twC 20 135 [0] [gn_i] (tp_Q (9, 2) 10 la_S) := by
  refine tp_semC (k := 8) hxt (by decide) hK (fun rest g l' a b R s hr hs hg hb hc => ?_)
  obtain ⟨x, r0, rfl, k0⟩ := av_int hr
  obtain rfl := k0.nil
  obtain ⟨v, g', l'', a', b', hrun, hh⟩ := ha_lake (g := g) (l := l') (a := a) (b := b) (R := R) (x := x) (by rw [hg, nI_i32 (by omega)]; omega) hb hc
  rcases hh with ⟨hno, rfl, rfl, rfl, rfl, rfl⟩ | ⟨N, rfl, hN, h92, hm⟩
  · refine ⟨.int (-1), _, _, _, _, s, Nat.zero_le 1, hrun, hs, hg, x, rfl, fun _ _ => rfl, Or.inl ⟨fun z => hno ?_, rfl, rfl⟩⟩
    rw [hg, nI_i32 (by omega)]
    exact z
  · rw [hg, nI_i32 (by omega)] at hN
    refine ⟨.int v, _, _, _, _, 0, Nat.zero_le 1, hrun, Nat.zero_le _, h92, nI N, rfl, ?_, Or.inr ⟨N, rfl, by omega, rfl, ?_⟩⟩
    · cases hz : sp_lake (sp_T (a 10) N) N with
      | inl z =>
        rw [hz] at hm
        intro i _
        rw [(hm.2.2.2.2.2 10 (by decide) (by decide) (by decide) (by decide)).2.1]
      | inr z =>
        rw [hz] at hm
        intro i _
        rw [(hm.2.2.2.2.2.2 10 (by decide) (by decide) (by decide) (by decide)).2.1]
    · cases hz : sp_lake (sp_T (a 10) N) N with
      | inl z =>
        rw [hz] at hm
        exact congrArg Value.int hm.1
      | inr z =>
        rw [hz] at hm
        exact congrArg Value.int hm.1
theorem la_semM (hst : ∀ (Ad : Nat → Prop) (U : State) (H : Heap), xt Ad U H → ∃ pl v tx, sk_X pl v Ad U H ∧ vk_R "GooseIceModel" 189 tx pl U) : lw_sem l D xt gn_TY (gn_X lw_twM) ads lw_twM 14 246 [0] [gn_i] (tp_Q (0, 10) 6 la_S) := by
  refine tp_semM (k := 10) (n := 1) hst gn_M1_ms (fun g tp bt a b xs s hx hI hs es => ?_)
  obtain ⟨x, r0, rfl, k0⟩ := fm_xsS hx
  obtain rfl := List.length_eq_zero_iff.mp k0
  obtain ⟨v, mem', hP, hf⟩ := fr_lake (g := g) (tp := tp) (bt := bt) (a := a) (b := b) (n := x) ⟨s, hs, es⟩
  obtain ⟨v, g', tp', bt', a', b', e, h1, h2⟩ := fm_I_FL hI hP
  cases e
  obtain ⟨v2, g2, a2, b2, hrun, hh⟩ := mr_lake (g := g) (tp := tp) (bt := bt) (a := a) (b := b) (x := x) (by rw [es, nI_i32 (by omega)]; omega) (fun k hk => hI.2.2 (6, 900, (-128), 127) (by decide) k hk)
  obtain ⟨d1, d2⟩ := fr_det hf hrun
  have ev : v = v2 := Value.int.inj (Option.some.inj d1)
  have e10 : g' 10 = g2 10 := Value.int.inj (Option.some.inj (fm_o_inj 10 d2))
  have e6 : a' 6 = a 6 := (h2.2.1 6 (by decide)).resolve_left (by decide +kernel)
  rcases hh with ⟨hno, k1, k2, -, -⟩ | ⟨N, rfl, hN, h0, hm⟩
  · refine ⟨v, g', tp', bt', a', b', s, hf, h1, h2, hs, by rw [e10, k2, pk_un (by decide), es], x, rfl, fun i _ => by rw [e6], Or.inl ⟨fun z => hno ?_, rfl, by rw [ev, k1]⟩⟩
    rw [es, nI_i32 (by omega)]
    exact z
  · rw [es, nI_i32 (by omega)] at hN
    refine ⟨v, g', tp', bt', a', b', 0, hf, h1, h2, Nat.zero_le _, by rw [e10, h0]; rfl, nI N, rfl, fun i _ => by rw [e6], Or.inr ⟨N, rfl, by omega, rfl, ?_⟩⟩
    rw [ev]
    cases hz : sp_lake (sp_T (a 6) N) N with
    | inl z =>
      rw [hz] at hm
      exact congrArg Value.int hm.1
    | inr z =>
      rw [hz] at hm
      exact congrArg Value.int hm.1
/-! ===== tales: no more than the tape ===== -/
theorem tp_f10 {U : State} {ws : va_W} (h5 : rk_A2 (fun b (q : Nat × va_E) => tk_cl gc_TY lc_ro ads lw_twC U b q.2) lw_twC ws) : ∃ f : Nat → Int32, ∀ i, i < 900 → lw_at ws (10, i) = some (.int (f i)) := by
  obtain ⟨q, hq, hc⟩ := h5.get (show lw_twC[10]? = some 7 by decide +kernel)
  unfold tk_cl at hc
  rw [show gc_TY.1[7]? = some (.inr (.byte, 900, (0, (-128), 127))) from rfl] at hc
  obtain ⟨cA, -, -, h3⟩ := hc
  obtain ⟨f, e, h3⟩ := (show ∃ f : Nat → Int32, q.2 = .inl (cA, 900, .inl f) ∧ ∀ i, i < 900 → tk_fv lc_ro gc_TY.2.1 ads lw_twC 7 i (0, (-128), 127) (.int (f i)) from h3)
  refine ⟨f, fun i hi => ?_⟩
  unfold lw_at
  dsimp only
  rw [hq]
  show tk_pos q.2 i = _
  rw [e]
  show (if i < 900 then some (Value.int (f i)) else none) = _
  rw [if_pos hi]
theorem ta_semU (hxt : tk_xtok xt) {W : List (Nat × Nat)} (hW : lr_un lw_twC gc_TY gc_K61.2.2.2.2.2.2 W = true) : lw_sem l D xt gc_TY (gc_X lw_twC) ads lw_twC 13 136 [0] [gn_i] (fun av ws ws' v => lk_Q 300 (9, 2) av ws ws' v ∧ (∀ z ∈ W, lw_at ws' z = lw_at ws z) ∧ ∃ f : Nat → Int32, ∀ i, i < 900 → lw_at ws (10, i) = some (.int (f i))) := by
  refine lw_sem_K (fun U ax ws av a1 a2 a3 a4 a5 a6 => ?_)
  obtain ⟨e, e2, yr, s, hw, hat, hty, hw2, hs, hat2⟩ := fd_wC a1 a3 a4
  obtain ⟨v1, r1, rfl, h1, a2'⟩ := rk_A2.cons (show rk_A2 lq_av [(0, gn_i)] av from a2)
  obtain rfl := a2'.nil
  obtain ⟨n, rfl, hn1, hn2⟩ : ∃ n : Int32, v1 = .int n ∧ (-2147483648 : Int) ≤ n.toInt ∧ n.toInt ≤ 2147483647 := by
    rcases h1 with ⟨-, x, e, b1, b2⟩ | ⟨h1, -⟩
    · exact ⟨x, e, b1, b2⟩
    · cases h1
  refine ⟨_, _, [6], [yr], _, _, _, [n.toInt, (s : Int)], ta_C lw_gcU hxt, ⟨⟨⟨hn1, hn2⟩, ⟨by show (0 : Int) ≤ _; omega, by show _ ≤ (900 : Int); omega⟩, trivial⟩, fun q hq => absurd hq List.not_mem_nil⟩, ⟨hty, trivial⟩, ⟨⟨n, rfl, by show some (1 * n.toInt + 0) = _; congr 1; omega⟩, trivial⟩, ?_, ?_⟩
  · intro z hz
    rcases List.mem_cons.mp hz with hz | hz
    · rw [hz]
      exact lw_fk (r := 0) (j := 0) (i := 7) rfl hw hat ⟨yr, rfl, rfl⟩
    · rw [List.mem_singleton.mp hz]
      exact lw_fk (r := 1) (j := 9) (i := 2) rfl hw2 hat2 ⟨nI s, rfl, by show some (1 * (s : Int) + 0) = _; rw [nI_i32 (by omega)]; congr 1; omega⟩
  · intro y hy t vals' rads' ws' oc k1 k2 k3 k4 k5 k6 k7 k8
    have hv0 : vals'[0]? = some n.toInt := lw_vals k1 rfl
    have hv1 : vals'[1]? = some (s : Int) := lw_vals k1 rfl
    have hr1 : rads'[1]? = some yr := lw_rads (r := 1) k2 rfl
    have hE0 : ∀ (I : tk_I), y.2.1.1[0]? = some I → I.1 ≤ n.toInt ∧ n.toInt ≤ I.2 := fun I hI => by
      obtain ⟨z, hz, h⟩ := k3.1.get hI
      rw [hv0] at hz
      cases hz
      exact h
    have hC : ∀ q ∈ y.2.1.2, ∃ x y2 : Int, vals'[q.1]? = some x ∧ vals'[q.2.1]? = some y2 ∧ x ≤ y2 + q.2.2 := k3.2
    have keep : ∀ {v : Value}, tk_g vals' rads' (0, 2, 1, 0) v → v = .int (nI s) := fun {v} g2 => by
      obtain ⟨x, rfl, hx⟩ := tk_g0 g2 rfl
      have hx : (match vals'[1]? with
        | some z => some (((1 : Nat) : Int) * z + 0)
        | none => none) = some x.toInt := hx
      rw [hv1] at hx
      have hx : some (1 * (s : Int) + 0) = some x.toInt := hx
      exact congrArg Value.int (Int32.toInt_inj.mp (by rw [nI_i32 (by omega)]; have := Option.some.inj hx; omega))
    rcases List.mem_cons.mp hy with hy | hy
    · subst hy
      have hb := hE0 ((-2147483648), (-1)) rfl
      obtain ⟨v, g1, g2⟩ := lw_fk_at (j := 9) (i := 2) a5 (k5.trans a3.symm) hr1 hw2 (k4 _ (List.mem_singleton.mpr rfl))
      obtain ⟨u, hg, eu⟩ := k8
      obtain ⟨x2, rfl, hx2⟩ := tk_g_int hg
      exact ⟨_, eu, ⟨⟨_, rfl⟩, s, n, rfl, hs, hat2, Or.inl ⟨fun h => by have := hb.2; have := h.1; omega, by rw [g1, keep g2]⟩⟩, lw_un_at a4.len.symm hW k7, tp_f10 a4⟩
    rcases List.mem_cons.mp hy with hy | hy
    · subst hy
      obtain ⟨p, q, hp, hq, hpq⟩ := hC (1, 0, (-1)) (List.mem_singleton.mpr rfl)
      rw [hv1] at hp
      rw [hv0] at hq
      cases hp
      cases hq
      obtain ⟨v, g1, g2⟩ := lw_fk_at (j := 9) (i := 2) a5 (k5.trans a3.symm) hr1 hw2 (k4 _ (List.mem_singleton.mpr rfl))
      obtain ⟨u, hg, eu⟩ := k8
      obtain ⟨x2, rfl, hx2⟩ := tk_g_int hg
      exact ⟨_, eu, ⟨⟨_, rfl⟩, s, n, rfl, hs, hat2, Or.inl ⟨fun h => by have q1 : (s : Int) ≤ n.toInt + (-1) := hpq; have := h.2.1; omega, by rw [g1, keep g2]⟩⟩, lw_un_at a4.len.symm hW k7, tp_f10 a4⟩
    rcases List.mem_cons.mp hy with hy | hy
    · subst hy
      have hb := hE0 (301, 2147483647) rfl
      obtain ⟨v, g1, g2⟩ := lw_fk_at (j := 9) (i := 2) a5 (k5.trans a3.symm) hr1 hw2 (k4 _ (List.mem_singleton.mpr rfl))
      obtain ⟨u, hg, eu⟩ := k8
      obtain ⟨x2, rfl, hx2⟩ := tk_g_int hg
      exact ⟨_, eu, ⟨⟨_, rfl⟩, s, n, rfl, hs, hat2, Or.inl ⟨fun h => by have := hb.1; have := h.2.2; omega, by rw [g1, keep g2]⟩⟩, lw_un_at a4.len.symm hW k7, tp_f10 a4⟩
    · rw [List.mem_singleton.mp hy] at hE0 hC k4 k8
      have hb := hE0 (0, 300) rfl
      obtain ⟨p, q, hp, hq, hpq⟩ := hC (0, 1, 0) (List.mem_singleton.mpr rfl)
      rw [hv0] at hp
      rw [hv1] at hq
      cases hp
      cases hq
      obtain ⟨v, g1, g2⟩ := lw_fk_at (j := 9) (i := 2) a5 (k5.trans a3.symm) hr1 hw2 (k4 _ (List.mem_singleton.mpr rfl))
      obtain ⟨u, hg, eu⟩ := k8
      obtain ⟨x2, rfl, -⟩ := tk_g0 hg rfl
      exact ⟨_, eu, ⟨⟨_, rfl⟩, s, n, rfl, hs, hat2, Or.inr ⟨⟨hb.1, by have q1 : n.toInt ≤ (s : Int) + 0 := hpq; omega, hb.2⟩, by rw [g1, tk_g_nI (k := 0) (by decide) g2]⟩⟩, lw_un_at a4.len.symm hW k7, tp_f10 a4⟩
theorem tp_f6 {U : State} {ws : va_W} (h5 : rk_A2 (fun b (q : Nat × va_E) => tk_cl gn_TY lc_ro ads lw_twM U b q.2) lw_twM ws) : ∃ f : Nat → Int32, ∀ i, i < 900 → lw_at ws (6, i) = some (.int (f i)) := by
  obtain ⟨q, hq, hc⟩ := h5.get (show lw_twM[6]? = some 6 by decide +kernel)
  unfold tk_cl at hc
  rw [show gn_TY.1[6]? = some (.inr (.byte, 900, (0, (-128), 127))) from rfl] at hc
  obtain ⟨cA, -, -, h3⟩ := hc
  obtain ⟨f, e, h3⟩ := (show ∃ f : Nat → Int32, q.2 = .inl (cA, 900, .inl f) ∧ ∀ i, i < 900 → tk_fv lc_ro gn_TY.2.1 ads lw_twM 6 i (0, (-128), 127) (.int (f i)) from h3)
  refine ⟨f, fun i hi => ?_⟩
  unfold lw_at
  dsimp only
  rw [hq]
  show tk_pos q.2 i = _
  rw [e]
  show (if i < 900 then some (Value.int (f i)) else none) = _
  rw [if_pos hi]
theorem ta_tpC (hxt : tk_xtok xt) : lw_sem l D xt gc_TY h2_X ads lw_twC 20 136 [0] [gn_i] (tp_Q (9, 2) 10 ta_S) := by
  refine lw_sem_imp (lw_sem_h2 (lw_sem_up (by decide) (ta_semU (W := h2_W ++ (List.range 900).map (fun i => (10, i))) hxt (by decide +kernel))) (fun av ws ws' v h z hz => h.2.1 z (List.mem_append_left _ hz))) ?_
  rintro av ws ws' v - ⟨⟨hv, s, n, rfl, hs, h1, h2⟩, hu, f, hf⟩
  have hf' : ∀ i, i < 900 → lw_at ws' (10, i) = some (.int (f i)) := fun i hi => (hu _ (List.mem_append_right _ (List.mem_map.mpr ⟨i, List.mem_range.mpr hi, rfl⟩))).trans (hf i hi)
  rcases h2 with ⟨p1, p2⟩ | ⟨p1, p2⟩
  · exact ⟨s, f, s, f, ⟨hs, h1, hf⟩, ⟨hs, p2, hf'⟩, n, rfl, hv, fun _ _ => rfl, Or.inl ⟨p1, rfl⟩⟩
  · exact ⟨s, f, 0, f, ⟨hs, h1, hf⟩, ⟨Nat.zero_le _, p2, hf'⟩, n, rfl, hv, fun _ _ => rfl, Or.inr ⟨p1, rfl⟩⟩
theorem ta_tpM (hst : ∀ (Ad : Nat → Prop) (U : State) (H : Heap), xt Ad U H → ∃ pl v tx, sk_X pl v Ad U H ∧ vk_R "GooseIceModel" 189 tx pl U) : lw_sem l D xt gn_TY (gn_X lw_twM) ads lw_twM 17 252 [0] [gn_i] (tp_Q (0, 10) 6 ta_S) := by
  refine tp_semM (k := 13) (n := 1) hst gn_M1_ms (fun g tp bt a b xs s hx hI hs es => ?_)
  obtain ⟨x0, xs0, rfl, hx0⟩ := fm_xsS hx
  obtain rfl := List.length_eq_zero_iff.mp hx0
  obtain ⟨v, mem', hP, hf⟩ := fr_tales (g := g) (tp := tp) (bt := bt) (a := a) (b := b) (n := x0) (fm_I_TH hI)
  obtain ⟨v, g', tp', bt', a', b', e, h1, h2⟩ := fm_I_FTA hI hP
  cases e
  have e6 : a' 6 = a 6 := (h2.2.1 6 (by decide)).resolve_left (by decide +kernel)
  obtain ⟨v2, g2, a2, e, hz⟩ := hP
  have e2 : g' 10 = g2 10 := Value.int.inj (Option.some.inj (fm_o_inj 10 (congrArg Prod.snd e)))
  have cv : (0 ≤ x0 ∧ x0 ≤ g 10 ∧ x0 ≤ 300) ↔ (0 ≤ x0.toInt ∧ x0.toInt ≤ (s : Int) ∧ x0.toInt ≤ 300) := by
    rw [Int32.le_iff_toInt_le, Int32.le_iff_toInt_le, Int32.le_iff_toInt_le, es, nI_i32 (by omega), show (300 : Int32).toInt = 300 from rfl, show (0 : Int32).toInt = 0 from rfl]
  rcases hz with ⟨z1, -, z3, -⟩ | ⟨z1, z2⟩
  · exact ⟨v, g', tp', bt', a', b', s, hf, h1, h2, hs, by rw [e2, z3, ← es]; rfl, x0, rfl, ⟨_, rfl⟩, fun i _ => by rw [e6], Or.inl ⟨fun h => z1 (cv.mpr h), rfl⟩⟩
  · exact ⟨v, g', tp', bt', a', b', 0, hf, h1, h2, Nat.zero_le _, by rw [e2]; exact z2.2.1, x0, rfl, ⟨_, rfl⟩, fun i _ => by rw [e6], Or.inr ⟨cv.mp z1, rfl⟩⟩
end TPS
end MH22_1
section MH22_2
/-! ===== the class's memory with the kept lakes ===== -/
def co68 (g : Nat → Int32) (l : Nat → Int64) : List Value := [.ref 69, .ref 70, .ref 71, .ref 72, .int (g 4), .int (g 5)]
def co185 (g : Nat → Int32) (l : Nat → Int64) : List Value := [.ref 186, .ref 187, .int (g 2)]
def co192 (g : Nat → Int32) (l : Nat → Int64) : List Value := [.ref 193, .ref 194, .ref 195, .ref 196, .ref 197, .ref 198, .ref 203, .ref 211, .int (g 8), .int (g 9), .int (g 10), .int (g 11), .int (g 12), .int (g 13)]
def co198 (g : Nat → Int32) (l : Nat → Int64) : List Value := [.ref 199, .ref 200, .ref 201, .ref 202, .int (g 4), .int (g 5)]
def co203 (g : Nat → Int32) (l : Nat → Int64) : List Value := [.ref 204, .ref 205, .ref 206, .ref 207, .ref 208, .ref 209, .ref 210, .int (g 7), .int (g 8), .int (g 9)]
def co211 (g : Nat → Int32) (l : Nat → Int64) : List Value := [.ref 212, .ref 213, .ref 214, .ref 215, .ref 216, .ref 217, .int (g 6), .int (g 7)]
def co218 (g : Nat → Int32) (l : Nat → Int64) : List Value := [.ref 219, .ref 220, .ref 221, .ref 222, .ref 223, .ref 224, .ref 229, .ref 237, .int (g 8), .int (g 9), .int (g 10), .int (g 11), .int (g 12), .int (g 13)]
def co224 (g : Nat → Int32) (l : Nat → Int64) : List Value := [.ref 225, .ref 226, .ref 227, .ref 228, .int (g 4), .int (g 5)]
def co229 (g : Nat → Int32) (l : Nat → Int64) : List Value := [.ref 230, .ref 231, .ref 232, .ref 233, .ref 234, .ref 235, .ref 236, .int (g 7), .int (g 8), .int (g 9)]
def co237 (g : Nat → Int32) (l : Nat → Int64) : List Value := [.ref 238, .ref 239, .ref 240, .ref 241, .ref 242, .ref 243, .int (g 6), .int (g 7)]
def co244 (g : Nat → Int32) (l : Nat → Int64) : List Value := [.ref 245, .ref 246, .ref 247, .ref 248, .ref 249, .ref 250, .ref 255, .ref 263, .int (g 8), .int (g 9), .int (g 10), .int (g 11), .int (g 12), .int (g 13)]
def co250 (g : Nat → Int32) (l : Nat → Int64) : List Value := [.ref 251, .ref 252, .ref 253, .ref 254, .int (g 4), .int (g 5)]
def co255 (g : Nat → Int32) (l : Nat → Int64) : List Value := [.ref 256, .ref 257, .ref 258, .ref 259, .ref 260, .ref 261, .ref 262, .int (g 7), .int (g 8), .int (g 9)]
def co263 (g : Nat → Int32) (l : Nat → Int64) : List Value := [.ref 264, .ref 265, .ref 266, .ref 267, .ref 268, .ref 269, .int (g 6), .int (g 7)]
def cr67 : Nat → Option Nat := fun i => if i < 3 then some (192 + 26 * i) else none
def cR (g : Nat → Nat → Int32) (l : Nat → Nat → Int64) (a : Nat → Nat → Int32) (b : Nat → Nat → Int64) (R : (Nat → fx_E) × fx_M) : fx_M := .inr (.object "GooseIce$Lake", 3, .inr (.inr (.inr (.inr cr67)))) :: .inl (6, co68 (g 68) (l 68)) :: .inr (.int, 10, .inl (a 69)) :: .inr (.int, 11, .inl (a 70)) :: .inr (.int, 10, .inl (a 71)) :: .inr (.int, 1024, .inl (a 72)) :: R.1 73 :: R.1 74 :: R.1 75 :: R.1 76 :: R.1 77 :: R.1 78 :: R.1 79 :: R.1 80 :: R.1 81 :: R.1 82 :: R.1 83 :: R.1 84 :: R.1 85 :: R.1 86 :: R.1 87 :: R.1 88 :: R.1 89 :: R.1 90 :: R.1 91 :: R.1 92 :: R.1 93 :: R.1 94 :: R.1 95 :: R.1 96 :: R.1 97 :: R.1 98 :: R.1 99 :: R.1 100 :: R.1 101 :: R.1 102 :: R.1 103 :: R.1 104 :: R.1 105 :: R.1 106 :: R.1 107 :: R.1 108 :: R.1 109 :: R.1 110 :: R.1 111 :: R.1 112 :: R.1 113 :: R.1 114 :: R.1 115 :: R.1 116 :: R.1 117 :: R.1 118 :: R.1 119 :: R.1 120 :: R.1 121 :: R.1 122 :: R.1 123 :: R.1 124 :: R.1 125 :: R.1 126 :: R.1 127 :: R.1 128 :: R.1 129 :: R.1 130 :: R.1 131 :: R.1 132 :: R.1 133 :: R.1 134 :: R.1 135 :: R.1 136 :: R.1 137 :: R.1 138 :: R.1 139 :: R.1 140 :: R.1 141 :: R.1 142 :: R.1 143 :: R.1 144 :: R.1 145 :: R.1 146 :: R.1 147 :: R.1 148 :: R.1 149 :: R.1 150 :: R.1 151 :: R.1 152 :: R.1 153 :: R.1 154 :: R.1 155 :: R.1 156 :: R.1 157 :: R.1 158 :: R.1 159 :: R.1 160 :: R.1 161 :: R.1 162 :: R.1 163 :: R.1 164 :: R.1 165 :: R.1 166 :: R.1 167 :: R.1 168 :: R.1 169 :: R.1 170 :: R.1 171 :: R.1 172 :: R.1 173 :: R.1 174 :: R.1 175 :: R.1 176 :: R.1 177 :: R.1 178 :: R.1 179 :: R.1 180 :: R.1 181 :: R.1 182 :: R.1 183 :: R.1 184 :: .inl (1, co185 (g 185) (l 185)) :: .inr (.long, 21, .inr (.inl (b 186))) :: .inr (.long, 21, .inr (.inl (b 187))) :: R.1 188 :: R.1 189 :: R.1 190 :: R.1 191 :: .inl (3, co192 (g 192) (l 192)) :: .inr (.long, 10, .inr (.inl (b 193))) :: .inr (.int, 10, .inl (a 194)) :: .inr (.int, 10, .inl (a 195)) :: .inr (.int, 10, .inl (a 196)) :: .inr (.int, 10, .inl (a 197)) :: .inl (2, co198 (g 198) (l 198)) :: .inr (.int, 10, .inl (a 199)) :: .inr (.int, 10, .inl (a 200)) :: .inr (.int, 10, .inl (a 201)) :: .inr (.int, 200, .inl (a 202)) :: .inl (0, co203 (g 203) (l 203)) :: .inr (.long, 8, .inr (.inl (b 204))) :: .inr (.int, 8, .inl (a 205)) :: .inr (.int, 8, .inl (a 206)) :: .inr (.int, 8, .inl (a 207)) :: .inr (.int, 8, .inl (a 208)) :: .inr (.int, 8, .inl (a 209)) :: .inr (.int, 160, .inl (a 210)) :: .inl (9, co211 (g 211) (l 211)) :: .inr (.int, 30, .inl (a 212)) :: .inr (.int, 30, .inl (a 213)) :: .inr (.int, 30, .inl (a 214)) :: .inr (.int, 30, .inl (a 215)) :: .inr (.int, 30, .inl (a 216)) :: .inr (.int, 30, .inl (a 217)) :: .inl (3, co218 (g 218) (l 218)) :: .inr (.long, 10, .inr (.inl (b 219))) :: .inr (.int, 10, .inl (a 220)) :: .inr (.int, 10, .inl (a 221)) :: .inr (.int, 10, .inl (a 222)) :: .inr (.int, 10, .inl (a 223)) :: .inl (2, co224 (g 224) (l 224)) :: .inr (.int, 10, .inl (a 225)) :: .inr (.int, 10, .inl (a 226)) :: .inr (.int, 10, .inl (a 227)) :: .inr (.int, 200, .inl (a 228)) :: .inl (0, co229 (g 229) (l 229)) :: .inr (.long, 8, .inr (.inl (b 230))) :: .inr (.int, 8, .inl (a 231)) :: .inr (.int, 8, .inl (a 232)) :: .inr (.int, 8, .inl (a 233)) :: .inr (.int, 8, .inl (a 234)) :: .inr (.int, 8, .inl (a 235)) :: .inr (.int, 160, .inl (a 236)) :: .inl (9, co237 (g 237) (l 237)) :: .inr (.int, 30, .inl (a 238)) :: .inr (.int, 30, .inl (a 239)) :: .inr (.int, 30, .inl (a 240)) :: .inr (.int, 30, .inl (a 241)) :: .inr (.int, 30, .inl (a 242)) :: .inr (.int, 30, .inl (a 243)) :: .inl (3, co244 (g 244) (l 244)) :: .inr (.long, 10, .inr (.inl (b 245))) :: .inr (.int, 10, .inl (a 246)) :: .inr (.int, 10, .inl (a 247)) :: .inr (.int, 10, .inl (a 248)) :: .inr (.int, 10, .inl (a 249)) :: .inl (2, co250 (g 250) (l 250)) :: .inr (.int, 10, .inl (a 251)) :: .inr (.int, 10, .inl (a 252)) :: .inr (.int, 10, .inl (a 253)) :: .inr (.int, 200, .inl (a 254)) :: .inl (0, co255 (g 255) (l 255)) :: .inr (.long, 8, .inr (.inl (b 256))) :: .inr (.int, 8, .inl (a 257)) :: .inr (.int, 8, .inl (a 258)) :: .inr (.int, 8, .inl (a 259)) :: .inr (.int, 8, .inl (a 260)) :: .inr (.int, 8, .inl (a 261)) :: .inr (.int, 160, .inl (a 262)) :: .inl (9, co263 (g 263) (l 263)) :: .inr (.int, 30, .inl (a 264)) :: .inr (.int, 30, .inl (a 265)) :: .inr (.int, 30, .inl (a 266)) :: .inr (.int, 30, .inl (a 267)) :: .inr (.int, 30, .inl (a 268)) :: .inr (.int, 30, .inl (a 269)) :: R.2
def cx (g : Nat → Nat → Int32) (l : Nat → Nat → Int64) (a : Nat → Nat → Int32) (b : Nat → Nat → Int64) (R : (Nat → fx_E) × fx_M) : fx_M := cm g l a b (cR g l a b R)
def gx_L : List (Nat × Nat × Nat) := [(67, 0, 192), (67, 1, 218), (67, 2, 244), (68, 0, 69), (68, 1, 70), (68, 2, 71), (68, 3, 72), (185, 0, 186), (185, 1, 187), (192, 0, 193), (192, 1, 194), (192, 2, 195), (192, 3, 196), (192, 4, 197), (192, 5, 198), (192, 6, 203), (192, 7, 211), (198, 0, 199), (198, 1, 200), (198, 2, 201), (198, 3, 202), (203, 0, 204), (203, 1, 205), (203, 2, 206), (203, 3, 207), (203, 4, 208), (203, 5, 209), (203, 6, 210), (211, 0, 212), (211, 1, 213), (211, 2, 214), (211, 3, 215), (211, 4, 216), (211, 5, 217), (218, 0, 219), (218, 1, 220), (218, 2, 221), (218, 3, 222), (218, 4, 223), (218, 5, 224), (218, 6, 229), (218, 7, 237), (224, 0, 225), (224, 1, 226), (224, 2, 227), (224, 3, 228), (229, 0, 230), (229, 1, 231), (229, 2, 232), (229, 3, 233), (229, 4, 234), (229, 5, 235), (229, 6, 236), (237, 0, 238), (237, 1, 239), (237, 2, 240), (237, 3, 241), (237, 4, 242), (237, 5, 243), (244, 0, 245), (244, 1, 246), (244, 2, 247), (244, 3, 248), (244, 4, 249), (244, 5, 250), (244, 6, 255), (244, 7, 263), (250, 0, 251), (250, 1, 252), (250, 2, 253), (250, 3, 254), (255, 0, 256), (255, 1, 257), (255, 2, 258), (255, 3, 259), (255, 4, 260), (255, 5, 261), (255, 6, 262), (263, 0, 264), (263, 1, 265), (263, 2, 266), (263, 3, 267), (263, 4, 268), (263, 5, 269)]
def gx (ws : va_W) : Prop := ∀ z ∈ gx_L, lw_at ws (z.1, z.2.1) = (ws[z.2.2]?).map (fun q => Value.ref q.1)
def hc_q (ads : List Nat) (ws : va_W) (j : Nat) : fx_E := match (hc_mem ads lw_twC ws)[j]? with
  | some e => e
  | none => .inl (0, [])
section HCX
variable {ads : List Nat} {ws : va_W} {U : State}
theorem hc_fx (h4 : ws.map Prod.fst = ads) (hD : va_D (fun _ => True) ws) (hG : gx ws) {j i k y ci : Nat} {vs : List Value} (hw : ws[j]? = some (y, .inr (ci, vs))) (hz : (j, i, k) ∈ gx_L) (hlt : i < vs.length) : (vs.map (hc_bk ads))[i]? = some (.ref k) := by
  have h := hG _ hz
  unfold lw_at at h
  dsimp only at h
  rw [hw] at h
  have h : vs[i]? = (ws[k]?).map (fun q => Value.ref q.1) := h
  rw [List.getElem?_map]
  rw [List.getElem?_eq_getElem hlt] at h ⊢
  show some (hc_bk ads vs[i]) = _
  rw [hc_bk_ref h4 hD h]
theorem hc_ar67 (h4 : ws.map Prod.fst = ads) (h5 : rk_A2 (fun b (q : Nat × va_E) => tk_cl gc_TY lc_ro ads lw_twC U b q.2) lw_twC ws) (hD : va_D (fun _ => True) ws) (hG : gx ws) : (hc_mem ads lw_twC ws)[67]? = some (.inr (.object "GooseIce$Lake", 3, .inr (.inr (.inr (.inr cr67))))) := by
  have ht : lw_twC[67]? = some 64 := by decide +kernel
  obtain ⟨q, hq, hc⟩ := h5.get ht
  unfold tk_cl at hc
  rw [show gc_TY.1[64]? = some (.inr (.object "GooseIce$Lake", 3, (2, 65, 0))) from rfl] at hc
  obtain ⟨cA, -, -, h3⟩ := hc
  obtain ⟨f, e, -⟩ := (show ∃ f : Nat → Option Nat, q.2 = .inl (cA, 3, .inr (.inr (.inr (.inr f)))) ∧ _ from h3)
  rw [hc_mem_at hq ht, e]
  have e2 : hc_ad ads 3 f = cr67 := by
    funext i
    unfold hc_ad cr67
    by_cases hi : i < 3
    · rw [if_pos hi, if_pos hi]
      have hz : (67, i, 192 + 26 * i) ∈ gx_L := by
        rcases (by omega : i = 0 ∨ i = 1 ∨ i = 2) with rfl | rfl | rfl <;> decide
      have h := hG _ hz
      unfold lw_at at h
      dsimp only at h
      rw [hq, show q = (q.1, q.2) from rfl, e] at h
      have h : (if i < 3 then some (va_rf (f i)) else none) = (ws[192 + 26 * i]?).map (fun q => Value.ref q.1) := h
      rw [if_pos hi] at h
      have h2 := hc_bk_ref h4 hD h
      cases hf : f i with
      | none => rw [hf] at h2; cases h2
      | some y =>
        rw [hf] at h2
        have h2 : Value.ref (hc_ix ads y) = .ref (192 + 26 * i) := h2
        show some (hc_ix ads y) = _
        rw [Value.ref.inj h2]
    · rw [if_neg hi, if_neg hi]
  show some (Sum.inr (hc_ft 64, (3, Sum.inr (Sum.inr (Sum.inr (Sum.inr (hc_ad ads 3 f)))))) : fx_E) = _
  rw [e2]
  rfl
theorem hc_o68 (h4 : ws.map Prod.fst = ads) (h5 : rk_A2 (fun b (q : Nat × va_E) => tk_cl gc_TY lc_ro ads lw_twC U b q.2) lw_twC ws) (hD : va_D (fun _ => True) ws) (hG : gx ws) : (hc_mem ads lw_twC ws)[68]? = some (.inl (6, co68 (cg ws 68) (cl_ ws 68))) := by
  have ht : lw_twC[68]? = some 91 := by decide +kernel
  obtain ⟨y, vs, hw, hl, hvs⟩ := hc_obj h4 h5 ht rfl
  have hl2 : vs.length = 6 := hl
  rw [hc_mem_at hw ht]
  show some (Sum.inl (6, vs.map (hc_bk ads)) : fx_E) = _
  have e : vs.map (hc_bk ads) = co68 (cg ws 68) (cl_ ws 68) := by
    apply List.ext_getElem?
    intro i
    match i with
    | 0 => exact hc_fx h4 hD hG hw (by decide) (by omega)
    | 1 => exact hc_fx h4 hD hG hw (by decide) (by omega)
    | 2 => exact hc_fx h4 hD hG hw (by decide) (by omega)
    | 3 => exact hc_fx h4 hD hG hw (by decide) (by omega)
    | 4 => exact hc_fm (hc_fi hw hl hvs rfl) rfl
    | 5 => exact hc_fm (hc_fi hw hl hvs rfl) rfl
    | i + 6 => rw [List.getElem?_eq_none (by rw [List.length_map]; omega), List.getElem?_eq_none (by show 6 ≤ i + 6; omega)]
  rw [e]
theorem hc_o185 (h4 : ws.map Prod.fst = ads) (h5 : rk_A2 (fun b (q : Nat × va_E) => tk_cl gc_TY lc_ro ads lw_twC U b q.2) lw_twC ws) (hD : va_D (fun _ => True) ws) (hG : gx ws) : (hc_mem ads lw_twC ws)[185]? = some (.inl (1, co185 (cg ws 185) (cl_ ws 185))) := by
  have ht : lw_twC[185]? = some 208 := by decide +kernel
  obtain ⟨y, vs, hw, hl, hvs⟩ := hc_obj h4 h5 ht rfl
  have hl2 : vs.length = 3 := hl
  rw [hc_mem_at hw ht]
  show some (Sum.inl (1, vs.map (hc_bk ads)) : fx_E) = _
  have e : vs.map (hc_bk ads) = co185 (cg ws 185) (cl_ ws 185) := by
    apply List.ext_getElem?
    intro i
    match i with
    | 0 => exact hc_fx h4 hD hG hw (by decide) (by omega)
    | 1 => exact hc_fx h4 hD hG hw (by decide) (by omega)
    | 2 => exact hc_fm (hc_fi hw hl hvs rfl) rfl
    | i + 3 => rw [List.getElem?_eq_none (by rw [List.length_map]; omega), List.getElem?_eq_none (by show 3 ≤ i + 3; omega)]
  rw [e]
theorem hc_o192 (h4 : ws.map Prod.fst = ads) (h5 : rk_A2 (fun b (q : Nat × va_E) => tk_cl gc_TY lc_ro ads lw_twC U b q.2) lw_twC ws) (hD : va_D (fun _ => True) ws) (hG : gx ws) : (hc_mem ads lw_twC ws)[192]? = some (.inl (3, co192 (cg ws 192) (cl_ ws 192))) := by
  have ht : lw_twC[192]? = some 65 := by decide +kernel
  obtain ⟨y, vs, hw, hl, hvs⟩ := hc_obj h4 h5 ht rfl
  have hl2 : vs.length = 14 := hl
  rw [hc_mem_at hw ht]
  show some (Sum.inl (3, vs.map (hc_bk ads)) : fx_E) = _
  have e : vs.map (hc_bk ads) = co192 (cg ws 192) (cl_ ws 192) := by
    apply List.ext_getElem?
    intro i
    match i with
    | 0 => exact hc_fx h4 hD hG hw (by decide) (by omega)
    | 1 => exact hc_fx h4 hD hG hw (by decide) (by omega)
    | 2 => exact hc_fx h4 hD hG hw (by decide) (by omega)
    | 3 => exact hc_fx h4 hD hG hw (by decide) (by omega)
    | 4 => exact hc_fx h4 hD hG hw (by decide) (by omega)
    | 5 => exact hc_fx h4 hD hG hw (by decide) (by omega)
    | 6 => exact hc_fx h4 hD hG hw (by decide) (by omega)
    | 7 => exact hc_fx h4 hD hG hw (by decide) (by omega)
    | 8 => exact hc_fm (hc_fi hw hl hvs rfl) rfl
    | 9 => exact hc_fm (hc_fi hw hl hvs rfl) rfl
    | 10 => exact hc_fm (hc_fi hw hl hvs rfl) rfl
    | 11 => exact hc_fm (hc_fi hw hl hvs rfl) rfl
    | 12 => exact hc_fm (hc_fi hw hl hvs rfl) rfl
    | 13 => exact hc_fm (hc_fi hw hl hvs rfl) rfl
    | i + 14 => rw [List.getElem?_eq_none (by rw [List.length_map]; omega), List.getElem?_eq_none (by show 14 ≤ i + 14; omega)]
  rw [e]
theorem hc_o198 (h4 : ws.map Prod.fst = ads) (h5 : rk_A2 (fun b (q : Nat × va_E) => tk_cl gc_TY lc_ro ads lw_twC U b q.2) lw_twC ws) (hD : va_D (fun _ => True) ws) (hG : gx ws) : (hc_mem ads lw_twC ws)[198]? = some (.inl (2, co198 (cg ws 198) (cl_ ws 198))) := by
  have ht : lw_twC[198]? = some 71 := by decide +kernel
  obtain ⟨y, vs, hw, hl, hvs⟩ := hc_obj h4 h5 ht rfl
  have hl2 : vs.length = 6 := hl
  rw [hc_mem_at hw ht]
  show some (Sum.inl (2, vs.map (hc_bk ads)) : fx_E) = _
  have e : vs.map (hc_bk ads) = co198 (cg ws 198) (cl_ ws 198) := by
    apply List.ext_getElem?
    intro i
    match i with
    | 0 => exact hc_fx h4 hD hG hw (by decide) (by omega)
    | 1 => exact hc_fx h4 hD hG hw (by decide) (by omega)
    | 2 => exact hc_fx h4 hD hG hw (by decide) (by omega)
    | 3 => exact hc_fx h4 hD hG hw (by decide) (by omega)
    | 4 => exact hc_fm (hc_fi hw hl hvs rfl) rfl
    | 5 => exact hc_fm (hc_fi hw hl hvs rfl) rfl
    | i + 6 => rw [List.getElem?_eq_none (by rw [List.length_map]; omega), List.getElem?_eq_none (by show 6 ≤ i + 6; omega)]
  rw [e]
theorem hc_o203 (h4 : ws.map Prod.fst = ads) (h5 : rk_A2 (fun b (q : Nat × va_E) => tk_cl gc_TY lc_ro ads lw_twC U b q.2) lw_twC ws) (hD : va_D (fun _ => True) ws) (hG : gx ws) : (hc_mem ads lw_twC ws)[203]? = some (.inl (0, co203 (cg ws 203) (cl_ ws 203))) := by
  have ht : lw_twC[203]? = some 76 := by decide +kernel
  obtain ⟨y, vs, hw, hl, hvs⟩ := hc_obj h4 h5 ht rfl
  have hl2 : vs.length = 10 := hl
  rw [hc_mem_at hw ht]
  show some (Sum.inl (0, vs.map (hc_bk ads)) : fx_E) = _
  have e : vs.map (hc_bk ads) = co203 (cg ws 203) (cl_ ws 203) := by
    apply List.ext_getElem?
    intro i
    match i with
    | 0 => exact hc_fx h4 hD hG hw (by decide) (by omega)
    | 1 => exact hc_fx h4 hD hG hw (by decide) (by omega)
    | 2 => exact hc_fx h4 hD hG hw (by decide) (by omega)
    | 3 => exact hc_fx h4 hD hG hw (by decide) (by omega)
    | 4 => exact hc_fx h4 hD hG hw (by decide) (by omega)
    | 5 => exact hc_fx h4 hD hG hw (by decide) (by omega)
    | 6 => exact hc_fx h4 hD hG hw (by decide) (by omega)
    | 7 => exact hc_fm (hc_fi hw hl hvs rfl) rfl
    | 8 => exact hc_fm (hc_fi hw hl hvs rfl) rfl
    | 9 => exact hc_fm (hc_fi hw hl hvs rfl) rfl
    | i + 10 => rw [List.getElem?_eq_none (by rw [List.length_map]; omega), List.getElem?_eq_none (by show 10 ≤ i + 10; omega)]
  rw [e]
theorem hc_o211 (h4 : ws.map Prod.fst = ads) (h5 : rk_A2 (fun b (q : Nat × va_E) => tk_cl gc_TY lc_ro ads lw_twC U b q.2) lw_twC ws) (hD : va_D (fun _ => True) ws) (hG : gx ws) : (hc_mem ads lw_twC ws)[211]? = some (.inl (9, co211 (cg ws 211) (cl_ ws 211))) := by
  have ht : lw_twC[211]? = some 84 := by decide +kernel
  obtain ⟨y, vs, hw, hl, hvs⟩ := hc_obj h4 h5 ht rfl
  have hl2 : vs.length = 8 := hl
  rw [hc_mem_at hw ht]
  show some (Sum.inl (9, vs.map (hc_bk ads)) : fx_E) = _
  have e : vs.map (hc_bk ads) = co211 (cg ws 211) (cl_ ws 211) := by
    apply List.ext_getElem?
    intro i
    match i with
    | 0 => exact hc_fx h4 hD hG hw (by decide) (by omega)
    | 1 => exact hc_fx h4 hD hG hw (by decide) (by omega)
    | 2 => exact hc_fx h4 hD hG hw (by decide) (by omega)
    | 3 => exact hc_fx h4 hD hG hw (by decide) (by omega)
    | 4 => exact hc_fx h4 hD hG hw (by decide) (by omega)
    | 5 => exact hc_fx h4 hD hG hw (by decide) (by omega)
    | 6 => exact hc_fm (hc_fi hw hl hvs rfl) rfl
    | 7 => exact hc_fm (hc_fi hw hl hvs rfl) rfl
    | i + 8 => rw [List.getElem?_eq_none (by rw [List.length_map]; omega), List.getElem?_eq_none (by show 8 ≤ i + 8; omega)]
  rw [e]
theorem hc_o218 (h4 : ws.map Prod.fst = ads) (h5 : rk_A2 (fun b (q : Nat × va_E) => tk_cl gc_TY lc_ro ads lw_twC U b q.2) lw_twC ws) (hD : va_D (fun _ => True) ws) (hG : gx ws) : (hc_mem ads lw_twC ws)[218]? = some (.inl (3, co218 (cg ws 218) (cl_ ws 218))) := by
  have ht : lw_twC[218]? = some 65 := by decide +kernel
  obtain ⟨y, vs, hw, hl, hvs⟩ := hc_obj h4 h5 ht rfl
  have hl2 : vs.length = 14 := hl
  rw [hc_mem_at hw ht]
  show some (Sum.inl (3, vs.map (hc_bk ads)) : fx_E) = _
  have e : vs.map (hc_bk ads) = co218 (cg ws 218) (cl_ ws 218) := by
    apply List.ext_getElem?
    intro i
    match i with
    | 0 => exact hc_fx h4 hD hG hw (by decide) (by omega)
    | 1 => exact hc_fx h4 hD hG hw (by decide) (by omega)
    | 2 => exact hc_fx h4 hD hG hw (by decide) (by omega)
    | 3 => exact hc_fx h4 hD hG hw (by decide) (by omega)
    | 4 => exact hc_fx h4 hD hG hw (by decide) (by omega)
    | 5 => exact hc_fx h4 hD hG hw (by decide) (by omega)
    | 6 => exact hc_fx h4 hD hG hw (by decide) (by omega)
    | 7 => exact hc_fx h4 hD hG hw (by decide) (by omega)
    | 8 => exact hc_fm (hc_fi hw hl hvs rfl) rfl
    | 9 => exact hc_fm (hc_fi hw hl hvs rfl) rfl
    | 10 => exact hc_fm (hc_fi hw hl hvs rfl) rfl
    | 11 => exact hc_fm (hc_fi hw hl hvs rfl) rfl
    | 12 => exact hc_fm (hc_fi hw hl hvs rfl) rfl
    | 13 => exact hc_fm (hc_fi hw hl hvs rfl) rfl
    | i + 14 => rw [List.getElem?_eq_none (by rw [List.length_map]; omega), List.getElem?_eq_none (by show 14 ≤ i + 14; omega)]
  rw [e]
theorem hc_o224 (h4 : ws.map Prod.fst = ads) (h5 : rk_A2 (fun b (q : Nat × va_E) => tk_cl gc_TY lc_ro ads lw_twC U b q.2) lw_twC ws) (hD : va_D (fun _ => True) ws) (hG : gx ws) : (hc_mem ads lw_twC ws)[224]? = some (.inl (2, co224 (cg ws 224) (cl_ ws 224))) := by
  have ht : lw_twC[224]? = some 71 := by decide +kernel
  obtain ⟨y, vs, hw, hl, hvs⟩ := hc_obj h4 h5 ht rfl
  have hl2 : vs.length = 6 := hl
  rw [hc_mem_at hw ht]
  show some (Sum.inl (2, vs.map (hc_bk ads)) : fx_E) = _
  have e : vs.map (hc_bk ads) = co224 (cg ws 224) (cl_ ws 224) := by
    apply List.ext_getElem?
    intro i
    match i with
    | 0 => exact hc_fx h4 hD hG hw (by decide) (by omega)
    | 1 => exact hc_fx h4 hD hG hw (by decide) (by omega)
    | 2 => exact hc_fx h4 hD hG hw (by decide) (by omega)
    | 3 => exact hc_fx h4 hD hG hw (by decide) (by omega)
    | 4 => exact hc_fm (hc_fi hw hl hvs rfl) rfl
    | 5 => exact hc_fm (hc_fi hw hl hvs rfl) rfl
    | i + 6 => rw [List.getElem?_eq_none (by rw [List.length_map]; omega), List.getElem?_eq_none (by show 6 ≤ i + 6; omega)]
  rw [e]
theorem hc_o229 (h4 : ws.map Prod.fst = ads) (h5 : rk_A2 (fun b (q : Nat × va_E) => tk_cl gc_TY lc_ro ads lw_twC U b q.2) lw_twC ws) (hD : va_D (fun _ => True) ws) (hG : gx ws) : (hc_mem ads lw_twC ws)[229]? = some (.inl (0, co229 (cg ws 229) (cl_ ws 229))) := by
  have ht : lw_twC[229]? = some 76 := by decide +kernel
  obtain ⟨y, vs, hw, hl, hvs⟩ := hc_obj h4 h5 ht rfl
  have hl2 : vs.length = 10 := hl
  rw [hc_mem_at hw ht]
  show some (Sum.inl (0, vs.map (hc_bk ads)) : fx_E) = _
  have e : vs.map (hc_bk ads) = co229 (cg ws 229) (cl_ ws 229) := by
    apply List.ext_getElem?
    intro i
    match i with
    | 0 => exact hc_fx h4 hD hG hw (by decide) (by omega)
    | 1 => exact hc_fx h4 hD hG hw (by decide) (by omega)
    | 2 => exact hc_fx h4 hD hG hw (by decide) (by omega)
    | 3 => exact hc_fx h4 hD hG hw (by decide) (by omega)
    | 4 => exact hc_fx h4 hD hG hw (by decide) (by omega)
    | 5 => exact hc_fx h4 hD hG hw (by decide) (by omega)
    | 6 => exact hc_fx h4 hD hG hw (by decide) (by omega)
    | 7 => exact hc_fm (hc_fi hw hl hvs rfl) rfl
    | 8 => exact hc_fm (hc_fi hw hl hvs rfl) rfl
    | 9 => exact hc_fm (hc_fi hw hl hvs rfl) rfl
    | i + 10 => rw [List.getElem?_eq_none (by rw [List.length_map]; omega), List.getElem?_eq_none (by show 10 ≤ i + 10; omega)]
  rw [e]
theorem hc_o237 (h4 : ws.map Prod.fst = ads) (h5 : rk_A2 (fun b (q : Nat × va_E) => tk_cl gc_TY lc_ro ads lw_twC U b q.2) lw_twC ws) (hD : va_D (fun _ => True) ws) (hG : gx ws) : (hc_mem ads lw_twC ws)[237]? = some (.inl (9, co237 (cg ws 237) (cl_ ws 237))) := by
  have ht : lw_twC[237]? = some 84 := by decide +kernel
  obtain ⟨y, vs, hw, hl, hvs⟩ := hc_obj h4 h5 ht rfl
  have hl2 : vs.length = 8 := hl
  rw [hc_mem_at hw ht]
  show some (Sum.inl (9, vs.map (hc_bk ads)) : fx_E) = _
  have e : vs.map (hc_bk ads) = co237 (cg ws 237) (cl_ ws 237) := by
    apply List.ext_getElem?
    intro i
    match i with
    | 0 => exact hc_fx h4 hD hG hw (by decide) (by omega)
    | 1 => exact hc_fx h4 hD hG hw (by decide) (by omega)
    | 2 => exact hc_fx h4 hD hG hw (by decide) (by omega)
    | 3 => exact hc_fx h4 hD hG hw (by decide) (by omega)
    | 4 => exact hc_fx h4 hD hG hw (by decide) (by omega)
    | 5 => exact hc_fx h4 hD hG hw (by decide) (by omega)
    | 6 => exact hc_fm (hc_fi hw hl hvs rfl) rfl
    | 7 => exact hc_fm (hc_fi hw hl hvs rfl) rfl
    | i + 8 => rw [List.getElem?_eq_none (by rw [List.length_map]; omega), List.getElem?_eq_none (by show 8 ≤ i + 8; omega)]
  rw [e]
theorem hc_o244 (h4 : ws.map Prod.fst = ads) (h5 : rk_A2 (fun b (q : Nat × va_E) => tk_cl gc_TY lc_ro ads lw_twC U b q.2) lw_twC ws) (hD : va_D (fun _ => True) ws) (hG : gx ws) : (hc_mem ads lw_twC ws)[244]? = some (.inl (3, co244 (cg ws 244) (cl_ ws 244))) := by
  have ht : lw_twC[244]? = some 65 := by decide +kernel
  obtain ⟨y, vs, hw, hl, hvs⟩ := hc_obj h4 h5 ht rfl
  have hl2 : vs.length = 14 := hl
  rw [hc_mem_at hw ht]
  show some (Sum.inl (3, vs.map (hc_bk ads)) : fx_E) = _
  have e : vs.map (hc_bk ads) = co244 (cg ws 244) (cl_ ws 244) := by
    apply List.ext_getElem?
    intro i
    match i with
    | 0 => exact hc_fx h4 hD hG hw (by decide) (by omega)
    | 1 => exact hc_fx h4 hD hG hw (by decide) (by omega)
    | 2 => exact hc_fx h4 hD hG hw (by decide) (by omega)
    | 3 => exact hc_fx h4 hD hG hw (by decide) (by omega)
    | 4 => exact hc_fx h4 hD hG hw (by decide) (by omega)
    | 5 => exact hc_fx h4 hD hG hw (by decide) (by omega)
    | 6 => exact hc_fx h4 hD hG hw (by decide) (by omega)
    | 7 => exact hc_fx h4 hD hG hw (by decide) (by omega)
    | 8 => exact hc_fm (hc_fi hw hl hvs rfl) rfl
    | 9 => exact hc_fm (hc_fi hw hl hvs rfl) rfl
    | 10 => exact hc_fm (hc_fi hw hl hvs rfl) rfl
    | 11 => exact hc_fm (hc_fi hw hl hvs rfl) rfl
    | 12 => exact hc_fm (hc_fi hw hl hvs rfl) rfl
    | 13 => exact hc_fm (hc_fi hw hl hvs rfl) rfl
    | i + 14 => rw [List.getElem?_eq_none (by rw [List.length_map]; omega), List.getElem?_eq_none (by show 14 ≤ i + 14; omega)]
  rw [e]
theorem hc_o250 (h4 : ws.map Prod.fst = ads) (h5 : rk_A2 (fun b (q : Nat × va_E) => tk_cl gc_TY lc_ro ads lw_twC U b q.2) lw_twC ws) (hD : va_D (fun _ => True) ws) (hG : gx ws) : (hc_mem ads lw_twC ws)[250]? = some (.inl (2, co250 (cg ws 250) (cl_ ws 250))) := by
  have ht : lw_twC[250]? = some 71 := by decide +kernel
  obtain ⟨y, vs, hw, hl, hvs⟩ := hc_obj h4 h5 ht rfl
  have hl2 : vs.length = 6 := hl
  rw [hc_mem_at hw ht]
  show some (Sum.inl (2, vs.map (hc_bk ads)) : fx_E) = _
  have e : vs.map (hc_bk ads) = co250 (cg ws 250) (cl_ ws 250) := by
    apply List.ext_getElem?
    intro i
    match i with
    | 0 => exact hc_fx h4 hD hG hw (by decide) (by omega)
    | 1 => exact hc_fx h4 hD hG hw (by decide) (by omega)
    | 2 => exact hc_fx h4 hD hG hw (by decide) (by omega)
    | 3 => exact hc_fx h4 hD hG hw (by decide) (by omega)
    | 4 => exact hc_fm (hc_fi hw hl hvs rfl) rfl
    | 5 => exact hc_fm (hc_fi hw hl hvs rfl) rfl
    | i + 6 => rw [List.getElem?_eq_none (by rw [List.length_map]; omega), List.getElem?_eq_none (by show 6 ≤ i + 6; omega)]
  rw [e]
theorem hc_o255 (h4 : ws.map Prod.fst = ads) (h5 : rk_A2 (fun b (q : Nat × va_E) => tk_cl gc_TY lc_ro ads lw_twC U b q.2) lw_twC ws) (hD : va_D (fun _ => True) ws) (hG : gx ws) : (hc_mem ads lw_twC ws)[255]? = some (.inl (0, co255 (cg ws 255) (cl_ ws 255))) := by
  have ht : lw_twC[255]? = some 76 := by decide +kernel
  obtain ⟨y, vs, hw, hl, hvs⟩ := hc_obj h4 h5 ht rfl
  have hl2 : vs.length = 10 := hl
  rw [hc_mem_at hw ht]
  show some (Sum.inl (0, vs.map (hc_bk ads)) : fx_E) = _
  have e : vs.map (hc_bk ads) = co255 (cg ws 255) (cl_ ws 255) := by
    apply List.ext_getElem?
    intro i
    match i with
    | 0 => exact hc_fx h4 hD hG hw (by decide) (by omega)
    | 1 => exact hc_fx h4 hD hG hw (by decide) (by omega)
    | 2 => exact hc_fx h4 hD hG hw (by decide) (by omega)
    | 3 => exact hc_fx h4 hD hG hw (by decide) (by omega)
    | 4 => exact hc_fx h4 hD hG hw (by decide) (by omega)
    | 5 => exact hc_fx h4 hD hG hw (by decide) (by omega)
    | 6 => exact hc_fx h4 hD hG hw (by decide) (by omega)
    | 7 => exact hc_fm (hc_fi hw hl hvs rfl) rfl
    | 8 => exact hc_fm (hc_fi hw hl hvs rfl) rfl
    | 9 => exact hc_fm (hc_fi hw hl hvs rfl) rfl
    | i + 10 => rw [List.getElem?_eq_none (by rw [List.length_map]; omega), List.getElem?_eq_none (by show 10 ≤ i + 10; omega)]
  rw [e]
theorem hc_o263 (h4 : ws.map Prod.fst = ads) (h5 : rk_A2 (fun b (q : Nat × va_E) => tk_cl gc_TY lc_ro ads lw_twC U b q.2) lw_twC ws) (hD : va_D (fun _ => True) ws) (hG : gx ws) : (hc_mem ads lw_twC ws)[263]? = some (.inl (9, co263 (cg ws 263) (cl_ ws 263))) := by
  have ht : lw_twC[263]? = some 84 := by decide +kernel
  obtain ⟨y, vs, hw, hl, hvs⟩ := hc_obj h4 h5 ht rfl
  have hl2 : vs.length = 8 := hl
  rw [hc_mem_at hw ht]
  show some (Sum.inl (9, vs.map (hc_bk ads)) : fx_E) = _
  have e : vs.map (hc_bk ads) = co263 (cg ws 263) (cl_ ws 263) := by
    apply List.ext_getElem?
    intro i
    match i with
    | 0 => exact hc_fx h4 hD hG hw (by decide) (by omega)
    | 1 => exact hc_fx h4 hD hG hw (by decide) (by omega)
    | 2 => exact hc_fx h4 hD hG hw (by decide) (by omega)
    | 3 => exact hc_fx h4 hD hG hw (by decide) (by omega)
    | 4 => exact hc_fx h4 hD hG hw (by decide) (by omega)
    | 5 => exact hc_fx h4 hD hG hw (by decide) (by omega)
    | 6 => exact hc_fm (hc_fi hw hl hvs rfl) rfl
    | 7 => exact hc_fm (hc_fi hw hl hvs rfl) rfl
    | i + 8 => rw [List.getElem?_eq_none (by rw [List.length_map]; omega), List.getElem?_eq_none (by show 8 ≤ i + 8; omega)]
  rw [e]
theorem hc_qj (h5 : rk_A2 (fun b (q : Nat × va_E) => tk_cl gc_TY lc_ro ads lw_twC U b q.2) lw_twC ws) {j : Nat} (hj : j < 270) : (hc_mem ads lw_twC ws)[j]? = some (hc_q ads ws j) := by
  have hl : j < (hc_mem ads lw_twC ws).length := by
    rw [hc_mem_len h5.len.symm, ← h5.len, lw_lenC]
    exact hj
  unfold hc_q
  rw [List.getElem?_eq_getElem hl]
theorem hc_cR (h4 : ws.map Prod.fst = ads) (h5 : rk_A2 (fun b (q : Nat × va_E) => tk_cl gc_TY lc_ro ads lw_twC U b q.2) lw_twC ws) (hD : va_D (fun _ => True) ws) (hG : gx ws) : (hc_mem ads lw_twC ws).drop 67 = cR (cg ws) (cl_ ws) (ca ws) (cb ws) (hc_q ads ws, (hc_mem ads lw_twC ws).drop 270) := by
  apply List.ext_getElem?
  intro i
  rw [List.getElem?_drop]
  match i with
  | 0 => exact hc_ar67 h4 h5 hD hG
  | 1 => exact hc_o68 h4 h5 hD hG
  | 2 => exact hc_arI h5 (show lw_twC[69]? = some 92 by decide +kernel) rfl (Or.inl rfl)
  | 3 => exact hc_arI h5 (show lw_twC[70]? = some 93 by decide +kernel) rfl (Or.inl rfl)
  | 4 => exact hc_arI h5 (show lw_twC[71]? = some 94 by decide +kernel) rfl (Or.inl rfl)
  | 5 => exact hc_arI h5 (show lw_twC[72]? = some 95 by decide +kernel) rfl (Or.inl rfl)
  | 6 => exact hc_qj h5 (by decide)
  | 7 => exact hc_qj h5 (by decide)
  | 8 => exact hc_qj h5 (by decide)
  | 9 => exact hc_qj h5 (by decide)
  | 10 => exact hc_qj h5 (by decide)
  | 11 => exact hc_qj h5 (by decide)
  | 12 => exact hc_qj h5 (by decide)
  | 13 => exact hc_qj h5 (by decide)
  | 14 => exact hc_qj h5 (by decide)
  | 15 => exact hc_qj h5 (by decide)
  | 16 => exact hc_qj h5 (by decide)
  | 17 => exact hc_qj h5 (by decide)
  | 18 => exact hc_qj h5 (by decide)
  | 19 => exact hc_qj h5 (by decide)
  | 20 => exact hc_qj h5 (by decide)
  | 21 => exact hc_qj h5 (by decide)
  | 22 => exact hc_qj h5 (by decide)
  | 23 => exact hc_qj h5 (by decide)
  | 24 => exact hc_qj h5 (by decide)
  | 25 => exact hc_qj h5 (by decide)
  | 26 => exact hc_qj h5 (by decide)
  | 27 => exact hc_qj h5 (by decide)
  | 28 => exact hc_qj h5 (by decide)
  | 29 => exact hc_qj h5 (by decide)
  | 30 => exact hc_qj h5 (by decide)
  | 31 => exact hc_qj h5 (by decide)
  | 32 => exact hc_qj h5 (by decide)
  | 33 => exact hc_qj h5 (by decide)
  | 34 => exact hc_qj h5 (by decide)
  | 35 => exact hc_qj h5 (by decide)
  | 36 => exact hc_qj h5 (by decide)
  | 37 => exact hc_qj h5 (by decide)
  | 38 => exact hc_qj h5 (by decide)
  | 39 => exact hc_qj h5 (by decide)
  | 40 => exact hc_qj h5 (by decide)
  | 41 => exact hc_qj h5 (by decide)
  | 42 => exact hc_qj h5 (by decide)
  | 43 => exact hc_qj h5 (by decide)
  | 44 => exact hc_qj h5 (by decide)
  | 45 => exact hc_qj h5 (by decide)
  | 46 => exact hc_qj h5 (by decide)
  | 47 => exact hc_qj h5 (by decide)
  | 48 => exact hc_qj h5 (by decide)
  | 49 => exact hc_qj h5 (by decide)
  | 50 => exact hc_qj h5 (by decide)
  | 51 => exact hc_qj h5 (by decide)
  | 52 => exact hc_qj h5 (by decide)
  | 53 => exact hc_qj h5 (by decide)
  | 54 => exact hc_qj h5 (by decide)
  | 55 => exact hc_qj h5 (by decide)
  | 56 => exact hc_qj h5 (by decide)
  | 57 => exact hc_qj h5 (by decide)
  | 58 => exact hc_qj h5 (by decide)
  | 59 => exact hc_qj h5 (by decide)
  | 60 => exact hc_qj h5 (by decide)
  | 61 => exact hc_qj h5 (by decide)
  | 62 => exact hc_qj h5 (by decide)
  | 63 => exact hc_qj h5 (by decide)
  | 64 => exact hc_qj h5 (by decide)
  | 65 => exact hc_qj h5 (by decide)
  | 66 => exact hc_qj h5 (by decide)
  | 67 => exact hc_qj h5 (by decide)
  | 68 => exact hc_qj h5 (by decide)
  | 69 => exact hc_qj h5 (by decide)
  | 70 => exact hc_qj h5 (by decide)
  | 71 => exact hc_qj h5 (by decide)
  | 72 => exact hc_qj h5 (by decide)
  | 73 => exact hc_qj h5 (by decide)
  | 74 => exact hc_qj h5 (by decide)
  | 75 => exact hc_qj h5 (by decide)
  | 76 => exact hc_qj h5 (by decide)
  | 77 => exact hc_qj h5 (by decide)
  | 78 => exact hc_qj h5 (by decide)
  | 79 => exact hc_qj h5 (by decide)
  | 80 => exact hc_qj h5 (by decide)
  | 81 => exact hc_qj h5 (by decide)
  | 82 => exact hc_qj h5 (by decide)
  | 83 => exact hc_qj h5 (by decide)
  | 84 => exact hc_qj h5 (by decide)
  | 85 => exact hc_qj h5 (by decide)
  | 86 => exact hc_qj h5 (by decide)
  | 87 => exact hc_qj h5 (by decide)
  | 88 => exact hc_qj h5 (by decide)
  | 89 => exact hc_qj h5 (by decide)
  | 90 => exact hc_qj h5 (by decide)
  | 91 => exact hc_qj h5 (by decide)
  | 92 => exact hc_qj h5 (by decide)
  | 93 => exact hc_qj h5 (by decide)
  | 94 => exact hc_qj h5 (by decide)
  | 95 => exact hc_qj h5 (by decide)
  | 96 => exact hc_qj h5 (by decide)
  | 97 => exact hc_qj h5 (by decide)
  | 98 => exact hc_qj h5 (by decide)
  | 99 => exact hc_qj h5 (by decide)
  | 100 => exact hc_qj h5 (by decide)
  | 101 => exact hc_qj h5 (by decide)
  | 102 => exact hc_qj h5 (by decide)
  | 103 => exact hc_qj h5 (by decide)
  | 104 => exact hc_qj h5 (by decide)
  | 105 => exact hc_qj h5 (by decide)
  | 106 => exact hc_qj h5 (by decide)
  | 107 => exact hc_qj h5 (by decide)
  | 108 => exact hc_qj h5 (by decide)
  | 109 => exact hc_qj h5 (by decide)
  | 110 => exact hc_qj h5 (by decide)
  | 111 => exact hc_qj h5 (by decide)
  | 112 => exact hc_qj h5 (by decide)
  | 113 => exact hc_qj h5 (by decide)
  | 114 => exact hc_qj h5 (by decide)
  | 115 => exact hc_qj h5 (by decide)
  | 116 => exact hc_qj h5 (by decide)
  | 117 => exact hc_qj h5 (by decide)
  | 118 => exact hc_o185 h4 h5 hD hG
  | 119 => exact hc_arL h5 (show lw_twC[186]? = some 209 by decide +kernel) rfl
  | 120 => exact hc_arL h5 (show lw_twC[187]? = some 210 by decide +kernel) rfl
  | 121 => exact hc_qj h5 (by decide)
  | 122 => exact hc_qj h5 (by decide)
  | 123 => exact hc_qj h5 (by decide)
  | 124 => exact hc_qj h5 (by decide)
  | 125 => exact hc_o192 h4 h5 hD hG
  | 126 => exact hc_arL h5 (show lw_twC[193]? = some 66 by decide +kernel) rfl
  | 127 => exact hc_arI h5 (show lw_twC[194]? = some 67 by decide +kernel) rfl (Or.inl rfl)
  | 128 => exact hc_arI h5 (show lw_twC[195]? = some 68 by decide +kernel) rfl (Or.inl rfl)
  | 129 => exact hc_arI h5 (show lw_twC[196]? = some 69 by decide +kernel) rfl (Or.inl rfl)
  | 130 => exact hc_arI h5 (show lw_twC[197]? = some 70 by decide +kernel) rfl (Or.inl rfl)
  | 131 => exact hc_o198 h4 h5 hD hG
  | 132 => exact hc_arI h5 (show lw_twC[199]? = some 72 by decide +kernel) rfl (Or.inl rfl)
  | 133 => exact hc_arI h5 (show lw_twC[200]? = some 73 by decide +kernel) rfl (Or.inl rfl)
  | 134 => exact hc_arI h5 (show lw_twC[201]? = some 74 by decide +kernel) rfl (Or.inl rfl)
  | 135 => exact hc_arI h5 (show lw_twC[202]? = some 75 by decide +kernel) rfl (Or.inl rfl)
  | 136 => exact hc_o203 h4 h5 hD hG
  | 137 => exact hc_arL h5 (show lw_twC[204]? = some 77 by decide +kernel) rfl
  | 138 => exact hc_arI h5 (show lw_twC[205]? = some 78 by decide +kernel) rfl (Or.inl rfl)
  | 139 => exact hc_arI h5 (show lw_twC[206]? = some 79 by decide +kernel) rfl (Or.inl rfl)
  | 140 => exact hc_arI h5 (show lw_twC[207]? = some 80 by decide +kernel) rfl (Or.inl rfl)
  | 141 => exact hc_arI h5 (show lw_twC[208]? = some 81 by decide +kernel) rfl (Or.inl rfl)
  | 142 => exact hc_arI h5 (show lw_twC[209]? = some 82 by decide +kernel) rfl (Or.inl rfl)
  | 143 => exact hc_arI h5 (show lw_twC[210]? = some 83 by decide +kernel) rfl (Or.inl rfl)
  | 144 => exact hc_o211 h4 h5 hD hG
  | 145 => exact hc_arI h5 (show lw_twC[212]? = some 85 by decide +kernel) rfl (Or.inl rfl)
  | 146 => exact hc_arI h5 (show lw_twC[213]? = some 86 by decide +kernel) rfl (Or.inl rfl)
  | 147 => exact hc_arI h5 (show lw_twC[214]? = some 87 by decide +kernel) rfl (Or.inl rfl)
  | 148 => exact hc_arI h5 (show lw_twC[215]? = some 88 by decide +kernel) rfl (Or.inl rfl)
  | 149 => exact hc_arI h5 (show lw_twC[216]? = some 89 by decide +kernel) rfl (Or.inl rfl)
  | 150 => exact hc_arI h5 (show lw_twC[217]? = some 90 by decide +kernel) rfl (Or.inl rfl)
  | 151 => exact hc_o218 h4 h5 hD hG
  | 152 => exact hc_arL h5 (show lw_twC[219]? = some 66 by decide +kernel) rfl
  | 153 => exact hc_arI h5 (show lw_twC[220]? = some 67 by decide +kernel) rfl (Or.inl rfl)
  | 154 => exact hc_arI h5 (show lw_twC[221]? = some 68 by decide +kernel) rfl (Or.inl rfl)
  | 155 => exact hc_arI h5 (show lw_twC[222]? = some 69 by decide +kernel) rfl (Or.inl rfl)
  | 156 => exact hc_arI h5 (show lw_twC[223]? = some 70 by decide +kernel) rfl (Or.inl rfl)
  | 157 => exact hc_o224 h4 h5 hD hG
  | 158 => exact hc_arI h5 (show lw_twC[225]? = some 72 by decide +kernel) rfl (Or.inl rfl)
  | 159 => exact hc_arI h5 (show lw_twC[226]? = some 73 by decide +kernel) rfl (Or.inl rfl)
  | 160 => exact hc_arI h5 (show lw_twC[227]? = some 74 by decide +kernel) rfl (Or.inl rfl)
  | 161 => exact hc_arI h5 (show lw_twC[228]? = some 75 by decide +kernel) rfl (Or.inl rfl)
  | 162 => exact hc_o229 h4 h5 hD hG
  | 163 => exact hc_arL h5 (show lw_twC[230]? = some 77 by decide +kernel) rfl
  | 164 => exact hc_arI h5 (show lw_twC[231]? = some 78 by decide +kernel) rfl (Or.inl rfl)
  | 165 => exact hc_arI h5 (show lw_twC[232]? = some 79 by decide +kernel) rfl (Or.inl rfl)
  | 166 => exact hc_arI h5 (show lw_twC[233]? = some 80 by decide +kernel) rfl (Or.inl rfl)
  | 167 => exact hc_arI h5 (show lw_twC[234]? = some 81 by decide +kernel) rfl (Or.inl rfl)
  | 168 => exact hc_arI h5 (show lw_twC[235]? = some 82 by decide +kernel) rfl (Or.inl rfl)
  | 169 => exact hc_arI h5 (show lw_twC[236]? = some 83 by decide +kernel) rfl (Or.inl rfl)
  | 170 => exact hc_o237 h4 h5 hD hG
  | 171 => exact hc_arI h5 (show lw_twC[238]? = some 85 by decide +kernel) rfl (Or.inl rfl)
  | 172 => exact hc_arI h5 (show lw_twC[239]? = some 86 by decide +kernel) rfl (Or.inl rfl)
  | 173 => exact hc_arI h5 (show lw_twC[240]? = some 87 by decide +kernel) rfl (Or.inl rfl)
  | 174 => exact hc_arI h5 (show lw_twC[241]? = some 88 by decide +kernel) rfl (Or.inl rfl)
  | 175 => exact hc_arI h5 (show lw_twC[242]? = some 89 by decide +kernel) rfl (Or.inl rfl)
  | 176 => exact hc_arI h5 (show lw_twC[243]? = some 90 by decide +kernel) rfl (Or.inl rfl)
  | 177 => exact hc_o244 h4 h5 hD hG
  | 178 => exact hc_arL h5 (show lw_twC[245]? = some 66 by decide +kernel) rfl
  | 179 => exact hc_arI h5 (show lw_twC[246]? = some 67 by decide +kernel) rfl (Or.inl rfl)
  | 180 => exact hc_arI h5 (show lw_twC[247]? = some 68 by decide +kernel) rfl (Or.inl rfl)
  | 181 => exact hc_arI h5 (show lw_twC[248]? = some 69 by decide +kernel) rfl (Or.inl rfl)
  | 182 => exact hc_arI h5 (show lw_twC[249]? = some 70 by decide +kernel) rfl (Or.inl rfl)
  | 183 => exact hc_o250 h4 h5 hD hG
  | 184 => exact hc_arI h5 (show lw_twC[251]? = some 72 by decide +kernel) rfl (Or.inl rfl)
  | 185 => exact hc_arI h5 (show lw_twC[252]? = some 73 by decide +kernel) rfl (Or.inl rfl)
  | 186 => exact hc_arI h5 (show lw_twC[253]? = some 74 by decide +kernel) rfl (Or.inl rfl)
  | 187 => exact hc_arI h5 (show lw_twC[254]? = some 75 by decide +kernel) rfl (Or.inl rfl)
  | 188 => exact hc_o255 h4 h5 hD hG
  | 189 => exact hc_arL h5 (show lw_twC[256]? = some 77 by decide +kernel) rfl
  | 190 => exact hc_arI h5 (show lw_twC[257]? = some 78 by decide +kernel) rfl (Or.inl rfl)
  | 191 => exact hc_arI h5 (show lw_twC[258]? = some 79 by decide +kernel) rfl (Or.inl rfl)
  | 192 => exact hc_arI h5 (show lw_twC[259]? = some 80 by decide +kernel) rfl (Or.inl rfl)
  | 193 => exact hc_arI h5 (show lw_twC[260]? = some 81 by decide +kernel) rfl (Or.inl rfl)
  | 194 => exact hc_arI h5 (show lw_twC[261]? = some 82 by decide +kernel) rfl (Or.inl rfl)
  | 195 => exact hc_arI h5 (show lw_twC[262]? = some 83 by decide +kernel) rfl (Or.inl rfl)
  | 196 => exact hc_o263 h4 h5 hD hG
  | 197 => exact hc_arI h5 (show lw_twC[264]? = some 85 by decide +kernel) rfl (Or.inl rfl)
  | 198 => exact hc_arI h5 (show lw_twC[265]? = some 86 by decide +kernel) rfl (Or.inl rfl)
  | 199 => exact hc_arI h5 (show lw_twC[266]? = some 87 by decide +kernel) rfl (Or.inl rfl)
  | 200 => exact hc_arI h5 (show lw_twC[267]? = some 88 by decide +kernel) rfl (Or.inl rfl)
  | 201 => exact hc_arI h5 (show lw_twC[268]? = some 89 by decide +kernel) rfl (Or.inl rfl)
  | 202 => exact hc_arI h5 (show lw_twC[269]? = some 90 by decide +kernel) rfl (Or.inl rfl)
  | i + 203 =>
    show (hc_mem ads lw_twC ws)[67 + (i + 203)]? = ((hc_mem ads lw_twC ws).drop 270)[i]?
    rw [List.getElem?_drop, show 67 + (i + 203) = 270 + i from by omega]
theorem hc_cx (h4 : ws.map Prod.fst = ads) (h5 : rk_A2 (fun b (q : Nat × va_E) => tk_cl gc_TY lc_ro ads lw_twC U b q.2) lw_twC ws) (hD : va_D (fun _ => True) ws) (hG : gs ws) (hX : gx ws) : hc_mem ads lw_twC ws = cx (cg ws) (cl_ ws) (ca ws) (cb ws) (hc_q ads ws, (hc_mem ads lw_twC ws).drop 270) := by
  have h := hc_cm h4 h5 hD hG
  rw [hc_cR h4 h5 hD hX] at h
  exact h
end HCX
end MH22_2
