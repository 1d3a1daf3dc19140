/-! ===== the trays' sizes: tray and write, on both sides ===== -/
def ty_ok (t s m : Int32) : Prop := (0 ≤ t.toInt ∧ t.toInt ≤ 3) ∧ (0 ≤ s.toInt ∧ s.toInt ≤ 3) ∧ 0 ≤ m.toInt ∧ m.toInt ≤ 60
def ty_Q (j : Nat) : List Value → va_W → va_W → Value → Prop := fun av ws ws' v => ∃ t s m : Int32, av = [.int t, .int s, .int m] ∧ lr_ty 0 v ∧ ((∃ k : Nat, k < 4 ∧ t = nI k ∧ ty_ok t s m ∧ ∀ i, i < 4 → lw_at ws' (j, i) = if i = k then some (.int m) else lw_at ws (j, i)) ∨ ¬ ty_ok t s m ∧ ∀ i, i < 4 → lw_at ws' (j, i) = lw_at ws (j, i))
def wr_G (j : Nat) (ws : va_W) (t p : Int32) : Prop := ∃ (k : Nat) (z : Int32), k < 4 ∧ t = nI k ∧ lw_at ws (j, k) = some (.int z) ∧ 0 ≤ p.toInt ∧ p.toInt < z.toInt
def wr_Q (j : Nat) : List Value → va_W → va_W → Value → Prop := fun av ws ws' v => ∃ (t p : Int32) (r : List Value), av = .int t :: .int p :: r ∧ (∀ i, i < 4 → lw_at ws' (j, i) = lw_at ws (j, i)) ∧ (wr_G j ws t p ∧ v = .int 1 ∨ ¬ wr_G j ws t p ∧ v = .int 0)
theorem ty_int {j : Nat} {av : List Value} {c0 c1 : va_W} {v : Value} (h : ty_Q j av c0 c1 v) : lr_ty 0 v := by
  obtain ⟨t, s, m, -, h, -⟩ := h
  exact h
theorem wr_int {j : Nat} {av : List Value} {c0 c1 : va_W} {v : Value} (h : wr_Q j av c0 c1 v) : lr_ty 0 v := by
  obtain ⟨t, p, r, -, -, ⟨-, rfl⟩ | ⟨-, rfl⟩⟩ := h
  · exact ⟨_, rfl⟩
  · exact ⟨_, rfl⟩
theorem nI_lt4 {k k' : Nat} (h : k < 4) (h' : k' < 4) (e : nI k = nI k') : k = k' := by
  have h2 : (nI k).toInt = (nI k').toInt := by rw [e]
  rw [nI_i32 (by omega), nI_i32 (by omega)] at h2
  omega
theorem ty_rel {j j' : Nat} {av : List Value} {c0 c1 m0 m1 : va_W} {u w : Value} (h : ∀ i, i < 4 → lw_at c0 (j, i) = lw_at m0 (j', i)) (h1 : ty_Q j av c0 c1 u) (h2 : ty_Q j' av m0 m1 w) : ∀ i, i < 4 → lw_at c1 (j, i) = lw_at m1 (j', i) := by
  obtain ⟨t, s, m, e, -, h1⟩ := h1
  obtain ⟨t', s', m', e', -, h2⟩ := h2
  rw [e] at e'
  have et : t = t' := by injection e' with a b; exact Value.int.inj a
  have es : s = s' := by injection e' with a b; injection b with a b; exact Value.int.inj a
  have em : m = m' := by injection e' with a b; injection b with a b; injection b with a b; exact Value.int.inj a
  subst et es em
  intro i hi
  rcases h1 with ⟨k, hk, a1, a2, a3⟩ | ⟨a1, a2⟩ <;> rcases h2 with ⟨k', hk', b1, b2, b3⟩ | ⟨b1, b2⟩
  · have ek : k = k' := nI_lt4 hk hk' (by rw [← a1, ← b1])
    subst ek
    rw [a3 i hi, b3 i hi, h i hi]
  · exact absurd a2 b1
  · exact absurd b2 a1
  · rw [a2 i hi, b2 i hi, h i hi]
theorem wr_rel {j j' : Nat} {av av2 : List Value} {c0 c1 m0 m1 : va_W} {u w : Value} {b ax am i : Nat} {xs : Nat → Int32} (h : ∀ i, i < 4 → lw_at c0 (j, i) = lw_at m0 (j', i)) (g1 : rk_A2 (lq_g b ax am i xs) [(0, 1), (0, 2), (7, 0)] av) (h1 : wr_Q j av c0 c1 u) (g2 : rk_A2 (lq_g b ax am i xs) [(0, 1), (0, 2), (7, 0)] av2) (h2 : wr_Q j' av2 m0 m1 w) : u = w ∧ ∀ i, i < 4 → lw_at c1 (j, i) = lw_at m1 (j', i) := by
  obtain ⟨v1, r1, rfl, q1, g1⟩ := g1.cons
  obtain ⟨v2, r2, rfl, q2, g1⟩ := g1.cons
  obtain ⟨v3, r3, rfl, q3, g2⟩ := g2.cons
  obtain ⟨v4, r4, rfl, q4, g2⟩ := g2.cons
  have e1 : v1 = v3 := (show v1 = _ from q1).trans (show v3 = _ from q3).symm
  have e2 : v2 = v4 := (show v2 = _ from q2).trans (show v4 = _ from q4).symm
  subst e1 e2
  obtain ⟨t, p, r, e, a1, a2⟩ := h1
  obtain ⟨t', p', r', e', b1, b2⟩ := h2
  have et : t = t' := by injection e with a _; injection e' with a' _; exact Value.int.inj (a.symm.trans a')
  have ep : p = p' := by injection e with _ b; injection e' with _ b'; injection b with a _; injection b' with a' _; exact Value.int.inj (a.symm.trans a')
  subst et ep
  have hG : wr_G j c0 t p ↔ wr_G j' m0 t p := ⟨fun ⟨k, z, hk, y1, y2, y3⟩ => ⟨k, z, hk, y1, by rw [← h k hk]; exact y2, y3⟩, fun ⟨k, z, hk, y1, y2, y3⟩ => ⟨k, z, hk, y1, by rw [h k hk]; exact y2, y3⟩⟩
  refine ⟨?_, fun i hi => by rw [a1 i hi, b1 i hi, h i hi]⟩
  rcases a2 with ⟨p1, p2⟩ | ⟨p1, p2⟩ <;> rcases b2 with ⟨q1, q2⟩ | ⟨q1, q2⟩
  · rw [p2, q2]
  · exact absurd (hG.mp p1) q1
  · exact absurd (hG.mpr q1) p1
  · rw [p2, q2]
section TYC
variable {l : Launch} {D : va_G} {xt : tk_XT} {ads tw : List Nat}
/-- facts: the row of sizes, and what stands there from symbol s on -/
def ty_fa (fz s : Nat) : tk_FA := [(0, (0, 0, 0, (fz : Int)), (2, 1, 0, 0)), (1, (0, 0, 0, 0), (0, s, 1, 0)), (1, (0, 0, 0, 1), (0, s + 1, 1, 0)), (1, (0, 0, 0, 2), (0, s + 2, 1, 0)), (1, (0, 0, 0, 3), (0, s + 3, 1, 0))]
/-- as they were, but for one -/
def ty_fb (s k a : Nat) : tk_FA := (List.range 4).map (fun i => (1, (0, 0, 0, (i : Int)), (0, if i = k then a else s + i, 1, 0)))
def ty_Z : List tk_I := [((-1), 60), ((-1), 60), ((-1), 60), ((-1), 60)]
/-- tray k, that can be -/
def ty_K (f fz k : Nat) (mods : List (Nat × Nat)) : tk_K := (f, [(2, 0, 0, 0), (0, 0, 0, (k : Int)), (0, 1, 1, 0), (0, 2, 1, 0)], ([(0, 3), (0, 60)] ++ ty_Z, []), [0, 4], ty_fa fz 3, ([(some (0, 0, 0, 1), ([(0, 3), (0, 60)] ++ ty_Z, []), [0, 4], ty_fb 3 k 2)], mods))
/-- tray, that can't be -/
def ty_B (f fz : Nat) (I1 I2 I3 : tk_I) (mods : List (Nat × Nat)) : tk_K := (f, [(2, 0, 0, 0), (0, 1, 1, 0), (0, 2, 1, 0), (0, 3, 1, 0)], ([I1, I2, I3] ++ ty_Z, []), [0, 4], ty_fa fz 4, ([(some (0, 0, 0, 0), ([I1, I2, I3] ++ ty_Z, []), [0, 4], ty_fb 4 9 0)], mods))
/-- write into tray k -/
def wr_K (f fz k : Nat) (mods : List (Nat × Nat)) : tk_K := (f, [(2, 0, 0, 0), (0, 0, 0, (k : Int)), (0, 1, 1, 0), (1, 2, 1, 0)], ([((-2147483648), 2147483647), ((-9223372036854775808), 9223372036854775807)] ++ ty_Z, []), [0, 4], ty_fa fz 3, ([
  (some (0, 0, 0, 1), ([(0, 59), ((-9223372036854775808), 9223372036854775807)] ++ ty_Z, [(0, k + 2, -1)]), [0, 4], ty_fb 3 9 0),
  (some (0, 0, 0, 0), ([((-2147483648), 2147483647), ((-9223372036854775808), 9223372036854775807)] ++ ty_Z.set k ((-1), (-1)), []), [0, 4], ty_fb 3 9 0),
  (some (0, 0, 0, 0), ([((-2147483648), (-1)), ((-9223372036854775808), 9223372036854775807)] ++ ty_Z, []), [0, 4], ty_fb 3 9 0),
  (some (0, 0, 0, 0), ([((-2147483648), 2147483647), ((-9223372036854775808), 9223372036854775807)] ++ ty_Z, [(k + 2, 0, 0)]), [0, 4], ty_fb 3 9 0)], mods))
def wr_B (f fz : Nat) (I1 : tk_I) (mods : List (Nat × Nat)) : tk_K := (f, [(2, 0, 0, 0), (0, 1, 1, 0), (0, 2, 1, 0), (1, 3, 1, 0)], ([I1, ((-2147483648), 2147483647), ((-9223372036854775808), 9223372036854775807)] ++ ty_Z, []), [0, 4], ty_fa fz 4, ([(some (0, 0, 0, 0), ([I1, ((-2147483648), 2147483647), ((-9223372036854775808), 9223372036854775807)] ++ ty_Z, []), [0, 4], ty_fb 4 9 0)], mods))
def ty_mC : List (Nat × Nat) := [(0, 0), (2, 0), (3, 0), (4, 0)]
def ty_mM : List (Nat × Nat) := [(0, 2), (3, 0), (4, 0), (5, 0)]
def wr_mC : List (Nat × Nat) := [(0, 0), (2, 0)]
def wr_mM : List (Nat × Nat) := [(0, 2), (5, 0)]
theorem ty_C0 (hU : gc_U tw) (hxt : tk_xtok xt) : tk_KS l D gk_cl gk_tbl gk_xw xt gk_MN gk_P gc_TY lc_ro (gc_X tw) ads tw 3 (ty_K 130 5 0 ty_mC) := tk_contract (hk := tk_hk0) tk_hk0_ok (gc_xs hU) hxt gk_rok [188, 189, 191] 9000 1 0 (Ks := [gc_K3]) (d := 1) (List.forall_mem_cons.mpr ⟨tk_KS_up (by decide) (gc_3 hU hxt), (fun _ h => absurd h List.not_mem_nil)⟩) (Hs := []) (by decide +kernel) rfl
def ty_H0 : List tk_Hd := [(49, [(0, (2, 0, 0, 0)), (1, (0, 0, 0, 0)), (2, (0, 1, 1, 0)), (3, (0, 2, 1, 0)), (4, (0, 7, 1, 0))], ([(0, 3), (0, 60)] ++ ty_Z ++ [(0, 60)], []), [0, 4], (0, (0, 0, 0, 6), (2, 1, 0, 0)) :: ty_fb 3 0 2, [(0, 0, (0, 0, 0, 0)), (1, 60, (0, 7, 1, 0)), (0, 0, (0, 0, 0, 0))])]
theorem ty_M0 (hU : gm_U tw) (hxt : tk_xtok xt) : tk_KS l D gk_cl gk_tbl gk_xw xt gk_MN gk_P gm_TY lc_ro (gm_X tw) ads tw 2 (ty_K 213 6 0 ty_mM) := tk_contract (hk := tk_hk0) tk_hk0_ok (gm_xs hU) hxt gk_rok [206, 211] 20000 1 3 (Ks := []) (d := 0) (fun _ h => absurd h List.not_mem_nil) (Hs := ty_H0) (by decide +kernel) rfl
theorem wr_C0 (hU : gc_U tw) (hxt : tk_xtok xt) : tk_KS l D gk_cl gk_tbl gk_xw xt gk_MN gk_P gc_TY lc_ro (gc_X tw) ads tw 3 (wr_K 131 5 0 wr_mC) := tk_contract (hk := tk_hk0) tk_hk0_ok (gc_xs hU) hxt gk_rok [188, 189, 191, 192, 193] 9000 2 0 (Ks := []) (d := 0) (fun _ h => absurd h List.not_mem_nil) (Hs := []) (by decide +kernel) rfl
theorem wr_M0 (hU : gm_U tw) (hxt : tk_xtok xt) : tk_KS l D gk_cl gk_tbl gk_xw xt gk_MN gk_P gm_TY lc_ro (gm_X tw) ads tw 4 (wr_K 215 6 0 wr_mM) := tk_contract (hk := tk_hk0) tk_hk0_ok (gm_xs hU) hxt gk_rok [206, 211, 212, 214] 20000 2 0 (Ks := [gn_K5]) (d := 1) (List.forall_mem_cons.mpr ⟨tk_KS_up (by decide) (gn_5 hU hxt), (fun _ h => absurd h List.not_mem_nil)⟩) (Hs := []) (by decide +kernel) rfl
theorem ty_C1 (hU : gc_U tw) (hxt : tk_xtok xt) : tk_KS l D gk_cl gk_tbl gk_xw xt gk_MN gk_P gc_TY lc_ro (gc_X tw) ads tw 3 (ty_K 130 5 1 ty_mC) := tk_contract (hk := tk_hk0) tk_hk0_ok (gc_xs hU) hxt gk_rok [188, 189, 191] 9000 1 0 (Ks := [gc_K3]) (d := 1) (List.forall_mem_cons.mpr ⟨tk_KS_up (by decide) (gc_3 hU hxt), (fun _ h => absurd h List.not_mem_nil)⟩) (Hs := []) (by decide +kernel) rfl
def ty_H1 : List tk_Hd := [(49, [(0, (2, 0, 0, 0)), (1, (0, 0, 0, 1)), (2, (0, 1, 1, 0)), (3, (0, 2, 1, 0)), (4, (0, 7, 1, 0))], ([(0, 3), (0, 60)] ++ ty_Z ++ [(0, 60)], []), [0, 4], (0, (0, 0, 0, 6), (2, 1, 0, 0)) :: ty_fb 3 1 2, [(0, 0, (0, 0, 0, 0)), (1, 60, (0, 7, 1, 0)), (0, 0, (0, 0, 0, 0))])]
theorem ty_M1 (hU : gm_U tw) (hxt : tk_xtok xt) : tk_KS l D gk_cl gk_tbl gk_xw xt gk_MN gk_P gm_TY lc_ro (gm_X tw) ads tw 2 (ty_K 213 6 1 ty_mM) := tk_contract (hk := tk_hk0) tk_hk0_ok (gm_xs hU) hxt gk_rok [206, 211] 20000 1 3 (Ks := []) (d := 0) (fun _ h => absurd h List.not_mem_nil) (Hs := ty_H1) (by decide +kernel) rfl
theorem wr_C1 (hU : gc_U tw) (hxt : tk_xtok xt) : tk_KS l D gk_cl gk_tbl gk_xw xt gk_MN gk_P gc_TY lc_ro (gc_X tw) ads tw 3 (wr_K 131 5 1 wr_mC) := tk_contract (hk := tk_hk0) tk_hk0_ok (gc_xs hU) hxt gk_rok [188, 189, 191, 192, 193] 9000 2 0 (Ks := []) (d := 0) (fun _ h => absurd h List.not_mem_nil) (Hs := []) (by decide +kernel) rfl
theorem wr_M1 (hU : gm_U tw) (hxt : tk_xtok xt) : tk_KS l D gk_cl gk_tbl gk_xw xt gk_MN gk_P gm_TY lc_ro (gm_X tw) ads tw 4 (wr_K 215 6 1 wr_mM) := tk_contract (hk := tk_hk0) tk_hk0_ok (gm_xs hU) hxt gk_rok [206, 211, 212, 214] 20000 2 0 (Ks := [gn_K5]) (d := 1) (List.forall_mem_cons.mpr ⟨tk_KS_up (by decide) (gn_5 hU hxt), (fun _ h => absurd h List.not_mem_nil)⟩) (Hs := []) (by decide +kernel) rfl
theorem ty_C2 (hU : gc_U tw) (hxt : tk_xtok xt) : tk_KS l D gk_cl gk_tbl gk_xw xt gk_MN gk_P gc_TY lc_ro (gc_X tw) ads tw 3 (ty_K 130 5 2 ty_mC) := tk_contract (hk := tk_hk0) tk_hk0_ok (gc_xs hU) hxt gk_rok [188, 189, 191] 9000 1 0 (Ks := [gc_K3]) (d := 1) (List.forall_mem_cons.mpr ⟨tk_KS_up (by decide) (gc_3 hU hxt), (fun _ h => absurd h List.not_mem_nil)⟩) (Hs := []) (by decide +kernel) rfl
def ty_H2 : List tk_Hd := [(49, [(0, (2, 0, 0, 0)), (1, (0, 0, 0, 2)), (2, (0, 1, 1, 0)), (3, (0, 2, 1, 0)), (4, (0, 7, 1, 0))], ([(0, 3), (0, 60)] ++ ty_Z ++ [(0, 60)], []), [0, 4], (0, (0, 0, 0, 6), (2, 1, 0, 0)) :: ty_fb 3 2 2, [(0, 0, (0, 0, 0, 0)), (1, 60, (0, 7, 1, 0)), (0, 0, (0, 0, 0, 0))])]
theorem ty_M2 (hU : gm_U tw) (hxt : tk_xtok xt) : tk_KS l D gk_cl gk_tbl gk_xw xt gk_MN gk_P gm_TY lc_ro (gm_X tw) ads tw 2 (ty_K 213 6 2 ty_mM) := tk_contract (hk := tk_hk0) tk_hk0_ok (gm_xs hU) hxt gk_rok [206, 211] 20000 1 3 (Ks := []) (d := 0) (fun _ h => absurd h List.not_mem_nil) (Hs := ty_H2) (by decide +kernel) rfl
theorem wr_C2 (hU : gc_U tw) (hxt : tk_xtok xt) : tk_KS l D gk_cl gk_tbl gk_xw xt gk_MN gk_P gc_TY lc_ro (gc_X tw) ads tw 3 (wr_K 131 5 2 wr_mC) := tk_contract (hk := tk_hk0) tk_hk0_ok (gc_xs hU) hxt gk_rok [188, 189, 191, 192, 193] 9000 2 0 (Ks := []) (d := 0) (fun _ h => absurd h List.not_mem_nil) (Hs := []) (by decide +kernel) rfl
theorem wr_M2 (hU : gm_U tw) (hxt : tk_xtok xt) : tk_KS l D gk_cl gk_tbl gk_xw xt gk_MN gk_P gm_TY lc_ro (gm_X tw) ads tw 4 (wr_K 215 6 2 wr_mM) := tk_contract (hk := tk_hk0) tk_hk0_ok (gm_xs hU) hxt gk_rok [206, 211, 212, 214] 20000 2 0 (Ks := [gn_K5]) (d := 1) (List.forall_mem_cons.mpr ⟨tk_KS_up (by decide) (gn_5 hU hxt), (fun _ h => absurd h List.not_mem_nil)⟩) (Hs := []) (by decide +kernel) rfl
theorem ty_C3 (hU : gc_U tw) (hxt : tk_xtok xt) : tk_KS l D gk_cl gk_tbl gk_xw xt gk_MN gk_P gc_TY lc_ro (gc_X tw) ads tw 3 (ty_K 130 5 3 ty_mC) := tk_contract (hk := tk_hk0) tk_hk0_ok (gc_xs hU) hxt gk_rok [188, 189, 191] 9000 1 0 (Ks := [gc_K3]) (d := 1) (List.forall_mem_cons.mpr ⟨tk_KS_up (by decide) (gc_3 hU hxt), (fun _ h => absurd h List.not_mem_nil)⟩) (Hs := []) (by decide +kernel) rfl
def ty_H3 : List tk_Hd := [(49, [(0, (2, 0, 0, 0)), (1, (0, 0, 0, 3)), (2, (0, 1, 1, 0)), (3, (0, 2, 1, 0)), (4, (0, 7, 1, 0))], ([(0, 3), (0, 60)] ++ ty_Z ++ [(0, 60)], []), [0, 4], (0, (0, 0, 0, 6), (2, 1, 0, 0)) :: ty_fb 3 3 2, [(0, 0, (0, 0, 0, 0)), (1, 60, (0, 7, 1, 0)), (0, 0, (0, 0, 0, 0))])]
theorem ty_M3 (hU : gm_U tw) (hxt : tk_xtok xt) : tk_KS l D gk_cl gk_tbl gk_xw xt gk_MN gk_P gm_TY lc_ro (gm_X tw) ads tw 2 (ty_K 213 6 3 ty_mM) := tk_contract (hk := tk_hk0) tk_hk0_ok (gm_xs hU) hxt gk_rok [206, 211] 20000 1 3 (Ks := []) (d := 0) (fun _ h => absurd h List.not_mem_nil) (Hs := ty_H3) (by decide +kernel) rfl
theorem wr_C3 (hU : gc_U tw) (hxt : tk_xtok xt) : tk_KS l D gk_cl gk_tbl gk_xw xt gk_MN gk_P gc_TY lc_ro (gc_X tw) ads tw 3 (wr_K 131 5 3 wr_mC) := tk_contract (hk := tk_hk0) tk_hk0_ok (gc_xs hU) hxt gk_rok [188, 189, 191, 192, 193] 9000 2 0 (Ks := []) (d := 0) (fun _ h => absurd h List.not_mem_nil) (Hs := []) (by decide +kernel) rfl
theorem wr_M3 (hU : gm_U tw) (hxt : tk_xtok xt) : tk_KS l D gk_cl gk_tbl gk_xw xt gk_MN gk_P gm_TY lc_ro (gm_X tw) ads tw 4 (wr_K 215 6 3 wr_mM) := tk_contract (hk := tk_hk0) tk_hk0_ok (gm_xs hU) hxt gk_rok [206, 211, 212, 214] 20000 2 0 (Ks := [gn_K5]) (d := 1) (List.forall_mem_cons.mpr ⟨tk_KS_up (by decide) (gn_5 hU hxt), (fun _ h => absurd h List.not_mem_nil)⟩) (Hs := []) (by decide +kernel) rfl
theorem ty_CB0 (hU : gc_U tw) (hxt : tk_xtok xt) : tk_KS l D gk_cl gk_tbl gk_xw xt gk_MN gk_P gc_TY lc_ro (gc_X tw) ads tw 3 (ty_B 130 5 ((-2147483648), (-1)) ((-2147483648), 2147483647) ((-2147483648), 2147483647) ty_mC) := tk_contract (hk := tk_hk0) tk_hk0_ok (gc_xs hU) hxt gk_rok [188, 189, 191] 9000 1 0 (Ks := [gc_K3]) (d := 1) (List.forall_mem_cons.mpr ⟨tk_KS_up (by decide) (gc_3 hU hxt), (fun _ h => absurd h List.not_mem_nil)⟩) (Hs := []) (by decide +kernel) rfl
theorem ty_MB0 (hU : gm_U tw) (hxt : tk_xtok xt) : tk_KS l D gk_cl gk_tbl gk_xw xt gk_MN gk_P gm_TY lc_ro (gm_X tw) ads tw 2 (ty_B 213 6 ((-2147483648), (-1)) ((-2147483648), 2147483647) ((-2147483648), 2147483647) ty_mM) := tk_contract (hk := tk_hk0) tk_hk0_ok (gm_xs hU) hxt gk_rok [206, 211] 20000 1 3 (Ks := []) (d := 0) (fun _ h => absurd h List.not_mem_nil) (Hs := []) (by decide +kernel) rfl
theorem ty_CB1 (hU : gc_U tw) (hxt : tk_xtok xt) : tk_KS l D gk_cl gk_tbl gk_xw xt gk_MN gk_P gc_TY lc_ro (gc_X tw) ads tw 3 (ty_B 130 5 (4, 2147483647) ((-2147483648), 2147483647) ((-2147483648), 2147483647) ty_mC) := tk_contract (hk := tk_hk0) tk_hk0_ok (gc_xs hU) hxt gk_rok [188, 189, 191] 9000 1 0 (Ks := [gc_K3]) (d := 1) (List.forall_mem_cons.mpr ⟨tk_KS_up (by decide) (gc_3 hU hxt), (fun _ h => absurd h List.not_mem_nil)⟩) (Hs := []) (by decide +kernel) rfl
theorem ty_MB1 (hU : gm_U tw) (hxt : tk_xtok xt) : tk_KS l D gk_cl gk_tbl gk_xw xt gk_MN gk_P gm_TY lc_ro (gm_X tw) ads tw 2 (ty_B 213 6 (4, 2147483647) ((-2147483648), 2147483647) ((-2147483648), 2147483647) ty_mM) := tk_contract (hk := tk_hk0) tk_hk0_ok (gm_xs hU) hxt gk_rok [206, 211] 20000 1 3 (Ks := []) (d := 0) (fun _ h => absurd h List.not_mem_nil) (Hs := []) (by decide +kernel) rfl
theorem ty_CB2 (hU : gc_U tw) (hxt : tk_xtok xt) : tk_KS l D gk_cl gk_tbl gk_xw xt gk_MN gk_P gc_TY lc_ro (gc_X tw) ads tw 3 (ty_B 130 5 (0, 3) ((-2147483648), (-1)) ((-2147483648), 2147483647) ty_mC) := tk_contract (hk := tk_hk0) tk_hk0_ok (gc_xs hU) hxt gk_rok [188, 189, 191] 9000 1 0 (Ks := [gc_K3]) (d := 1) (List.forall_mem_cons.mpr ⟨tk_KS_up (by decide) (gc_3 hU hxt), (fun _ h => absurd h List.not_mem_nil)⟩) (Hs := []) (by decide +kernel) rfl
theorem ty_MB2 (hU : gm_U tw) (hxt : tk_xtok xt) : tk_KS l D gk_cl gk_tbl gk_xw xt gk_MN gk_P gm_TY lc_ro (gm_X tw) ads tw 2 (ty_B 213 6 (0, 3) ((-2147483648), (-1)) ((-2147483648), 2147483647) ty_mM) := tk_contract (hk := tk_hk0) tk_hk0_ok (gm_xs hU) hxt gk_rok [206, 211] 20000 1 3 (Ks := []) (d := 0) (fun _ h => absurd h List.not_mem_nil) (Hs := []) (by decide +kernel) rfl
theorem ty_CB3 (hU : gc_U tw) (hxt : tk_xtok xt) : tk_KS l D gk_cl gk_tbl gk_xw xt gk_MN gk_P gc_TY lc_ro (gc_X tw) ads tw 3 (ty_B 130 5 (0, 3) (4, 2147483647) ((-2147483648), 2147483647) ty_mC) := tk_contract (hk := tk_hk0) tk_hk0_ok (gc_xs hU) hxt gk_rok [188, 189, 191] 9000 1 0 (Ks := [gc_K3]) (d := 1) (List.forall_mem_cons.mpr ⟨tk_KS_up (by decide) (gc_3 hU hxt), (fun _ h => absurd h List.not_mem_nil)⟩) (Hs := []) (by decide +kernel) rfl
theorem ty_MB3 (hU : gm_U tw) (hxt : tk_xtok xt) : tk_KS l D gk_cl gk_tbl gk_xw xt gk_MN gk_P gm_TY lc_ro (gm_X tw) ads tw 2 (ty_B 213 6 (0, 3) (4, 2147483647) ((-2147483648), 2147483647) ty_mM) := tk_contract (hk := tk_hk0) tk_hk0_ok (gm_xs hU) hxt gk_rok [206, 211] 20000 1 3 (Ks := []) (d := 0) (fun _ h => absurd h List.not_mem_nil) (Hs := []) (by decide +kernel) rfl
theorem ty_CB4 (hU : gc_U tw) (hxt : tk_xtok xt) : tk_KS l D gk_cl gk_tbl gk_xw xt gk_MN gk_P gc_TY lc_ro (gc_X tw) ads tw 3 (ty_B 130 5 (0, 3) (0, 3) ((-2147483648), (-1)) ty_mC) := tk_contract (hk := tk_hk0) tk_hk0_ok (gc_xs hU) hxt gk_rok [188, 189, 191] 9000 1 0 (Ks := [gc_K3]) (d := 1) (List.forall_mem_cons.mpr ⟨tk_KS_up (by decide) (gc_3 hU hxt), (fun _ h => absurd h List.not_mem_nil)⟩) (Hs := []) (by decide +kernel) rfl
theorem ty_MB4 (hU : gm_U tw) (hxt : tk_xtok xt) : tk_KS l D gk_cl gk_tbl gk_xw xt gk_MN gk_P gm_TY lc_ro (gm_X tw) ads tw 2 (ty_B 213 6 (0, 3) (0, 3) ((-2147483648), (-1)) ty_mM) := tk_contract (hk := tk_hk0) tk_hk0_ok (gm_xs hU) hxt gk_rok [206, 211] 20000 1 3 (Ks := []) (d := 0) (fun _ h => absurd h List.not_mem_nil) (Hs := []) (by decide +kernel) rfl
theorem ty_CB5 (hU : gc_U tw) (hxt : tk_xtok xt) : tk_KS l D gk_cl gk_tbl gk_xw xt gk_MN gk_P gc_TY lc_ro (gc_X tw) ads tw 3 (ty_B 130 5 (0, 3) (0, 3) (61, 2147483647) ty_mC) := tk_contract (hk := tk_hk0) tk_hk0_ok (gc_xs hU) hxt gk_rok [188, 189, 191] 9000 1 0 (Ks := [gc_K3]) (d := 1) (List.forall_mem_cons.mpr ⟨tk_KS_up (by decide) (gc_3 hU hxt), (fun _ h => absurd h List.not_mem_nil)⟩) (Hs := []) (by decide +kernel) rfl
theorem ty_MB5 (hU : gm_U tw) (hxt : tk_xtok xt) : tk_KS l D gk_cl gk_tbl gk_xw xt gk_MN gk_P gm_TY lc_ro (gm_X tw) ads tw 2 (ty_B 213 6 (0, 3) (0, 3) (61, 2147483647) ty_mM) := tk_contract (hk := tk_hk0) tk_hk0_ok (gm_xs hU) hxt gk_rok [206, 211] 20000 1 3 (Ks := []) (d := 0) (fun _ h => absurd h List.not_mem_nil) (Hs := []) (by decide +kernel) rfl
theorem wr_CB0 (hU : gc_U tw) (hxt : tk_xtok xt) : tk_KS l D gk_cl gk_tbl gk_xw xt gk_MN gk_P gc_TY lc_ro (gc_X tw) ads tw 3 (wr_B 131 5 ((-2147483648), (-1)) wr_mC) := tk_contract (hk := tk_hk0) tk_hk0_ok (gc_xs hU) hxt gk_rok [188, 189, 191, 192, 193] 9000 2 0 (Ks := []) (d := 0) (fun _ h => absurd h List.not_mem_nil) (Hs := []) (by decide +kernel) rfl
theorem wr_MB0 (hU : gm_U tw) (hxt : tk_xtok xt) : tk_KS l D gk_cl gk_tbl gk_xw xt gk_MN gk_P gm_TY lc_ro (gm_X tw) ads tw 4 (wr_B 215 6 ((-2147483648), (-1)) wr_mM) := tk_contract (hk := tk_hk0) tk_hk0_ok (gm_xs hU) hxt gk_rok [206, 211, 212, 214] 20000 2 0 (Ks := [gn_K5]) (d := 1) (List.forall_mem_cons.mpr ⟨tk_KS_up (by decide) (gn_5 hU hxt), (fun _ h => absurd h List.not_mem_nil)⟩) (Hs := []) (by decide +kernel) rfl
theorem wr_CB1 (hU : gc_U tw) (hxt : tk_xtok xt) : tk_KS l D gk_cl gk_tbl gk_xw xt gk_MN gk_P gc_TY lc_ro (gc_X tw) ads tw 3 (wr_B 131 5 (4, 2147483647) wr_mC) := tk_contract (hk := tk_hk0) tk_hk0_ok (gc_xs hU) hxt gk_rok [188, 189, 191, 192, 193] 9000 2 0 (Ks := []) (d := 0) (fun _ h => absurd h List.not_mem_nil) (Hs := []) (by decide +kernel) rfl
theorem wr_MB1 (hU : gm_U tw) (hxt : tk_xtok xt) : tk_KS l D gk_cl gk_tbl gk_xw xt gk_MN gk_P gm_TY lc_ro (gm_X tw) ads tw 4 (wr_B 215 6 (4, 2147483647) wr_mM) := tk_contract (hk := tk_hk0) tk_hk0_ok (gm_xs hU) hxt gk_rok [206, 211, 212, 214] 20000 2 0 (Ks := [gn_K5]) (d := 1) (List.forall_mem_cons.mpr ⟨tk_KS_up (by decide) (gn_5 hU hxt), (fun _ h => absurd h List.not_mem_nil)⟩) (Hs := []) (by decide +kernel) rfl
end TYC
