/-! ===== trials and the first of them: both sides by one table ===== -/
def tr_ok (x y : Int32) : Prop := 0 ≤ x.toInt ∧ x.toInt ≤ 60 ∧ 1 ≤ y.toInt ∧ y.toInt ≤ 6
theorem tr_tg : ∀ k, k < 7 → ∀ m, m < 61 → fm_tr k m = tg k m := by
  intro k
  induction k with
  | zero =>
    intro _ m hm
    by_cases h : m = 0
    · subst h; rw [fm_tr_0, tg_c0 (by decide)]
    · rw [tg_c1 hm h]
      show (if m = 0 then 0 else 1000000) = 1000000
      rw [if_neg h]
  | succ k ih =>
    intro hk m
    induction m using Nat.strongRecOn with
    | ind m ihm =>
      intro hm
      cases m with
      | zero => rw [fm_tr_0, tg_c0 hk]
      | succ m =>
        rw [fm_tr_s, ← tg_c2 hk (by omega) hm (by omega)]
        have : ∀ x, x ≤ m + 1 → fm_ra (fm_tr k) (fm_tr (k + 1)) (m + 1) x = tg_acc (k + 1) (m + 1) x := by
          intro x
          induction x with
          | zero => intro _; rfl
          | succ x ihx =>
            intro hx
            show min (fm_ra (fm_tr k) (fm_tr (k + 1)) (m + 1) x) (1 + max (fm_tr k x) (fm_tr (k + 1) (m + 1 - (x + 1)))) = min (tg_acc (k + 1) (m + 1) x) (1 + max (tg (k + 1 - 1) x) (tg (k + 1) (m + 1 - 1 - x)))
            rw [ihx (by omega), ih (by omega) x (by omega), ihm (m + 1 - (x + 1)) (by omega) (by omega), show k + 1 - 1 = k by omega, show m + 1 - 1 - x = m + 1 - (x + 1) by omega]
        exact this (m + 1) (Nat.le_refl _)
/-- the first that is tried -/
def tf_is (k m x : Nat) : Bool := Nat.ble 1 x && Nat.beq (1 + max (tg (k - 1) (x - 1)) (tg k (m - x))) (tg k m)
def tf_v (k m : Nat) : Nat := ((List.range 61).find? (tf_is k m)).getD 0
theorem tf_v_of {k m x : Nat} (hx : x < 61) (h1 : tf_is k m x = true) (h2 : ∀ y, y < x → tf_is k m y = false) : tf_v k m = x := by
  have : ∀ (n s : Nat), s ≤ x → x < s + n → ((List.range' s n).find? (tf_is k m)) = some x := by
    intro n
    induction n with
    | zero => intro s a b; omega
    | succ n ih =>
      intro s a b
      rw [List.range'_succ, List.find?_cons]
      by_cases e : s = x
      · rw [e, h1]
      · rw [h2 s (by omega)]
        exact ih (s + 1) (by omega) (by omega)
  unfold tf_v
  rw [List.range_eq_range', this 61 0 (by omega) (by omega)]
  rfl
/-- what the two calls give -/
def tr_v (k m : Nat) : Int := (tg k m : Nat)
def tf_w (k m : Nat) : Int := if m = 0 then -1 else (tf_v k m : Nat)
def tr_Q (V : Nat → Nat → Int) : List Value → va_W → va_W → Value → Prop := fun av _ _ v => ∃ x y z : Int32, av = [.int x, .int y] ∧ v = .int z ∧ (¬ tr_ok x y ∧ z.toInt = -1 ∨ ∃ m k : Nat, m ≤ 60 ∧ 1 ≤ k ∧ k ≤ 6 ∧ x = nI m ∧ y = nI k ∧ z.toInt = V k m)
theorem tr_int {V : Nat → Nat → Int} {av : List Value} {c0 c1 : va_W} {v : Value} (h : tr_Q V av c0 c1 v) : lr_ty 0 v := by
  obtain ⟨x, y, z, -, rfl, -⟩ := h
  exact ⟨_, rfl⟩
theorem tr_bad {m k : Nat} (hm : m ≤ 60) (h1 : 1 ≤ k) (hk : k ≤ 6) : tr_ok (nI m) (nI k) := ⟨by rw [nI_i32 (by omega)]; omega, by rw [nI_i32 (by omega)]; omega, by rw [nI_i32 (by omega)]; omega, by rw [nI_i32 (by omega)]; omega⟩
theorem tr_rel {V : Nat → Nat → Int} {av : List Value} {c0 c1 m0 m1 : va_W} {u w : Value} (h1 : tr_Q V av c0 c1 u) (h2 : tr_Q V av m0 m1 w) : u = w := by
  obtain ⟨x, y, z, e1, rfl, h1⟩ := h1
  obtain ⟨x2, y2, z2, e2, rfl, h2⟩ := h2
  rw [e1] at e2
  have ex : x = x2 := by injection e2 with a b; exact Value.int.inj a
  have ey : y = y2 := by injection e2 with a b; injection b with a b; exact Value.int.inj a
  subst ex ey
  congr 1
  apply Int32.toInt_inj.mp
  rcases h1 with ⟨a1, a2⟩ | ⟨m, k, a1, a2, a3, rfl, rfl, a6⟩ <;> rcases h2 with ⟨b1, b2⟩ | ⟨m', k', b1, b2, b3, b4, b5, b6⟩
  · rw [a2, b2]
  · subst b4 b5; exact absurd (tr_bad b1 b2 b3) a1
  · exact absurd (tr_bad a1 a2 a3) b1
  · have e3 : (nI m).toInt = (nI m').toInt := by rw [b4]
    have e4 : (nI k).toInt = (nI k').toInt := by rw [b5]
    rw [nI_i32 (by omega), nI_i32 (by omega)] at e3 e4
    have e3 : m = m' := by omega
    have e4 : k = k' := by omega
    subst e3 e4
    rw [a6, b6]
section TRC
variable {l : Launch} {D : va_G} {xt : tk_XT} {ads tw : List Nat}
def tr_K (f b : Nat) (ys : List tk_X) : tk_K := (f, [(2, 0, 0, 0), (0, 1, 1, 0), (0, 0, 0, (b : Int))], ([(0, 60)], []), [0], [], (ys, [(0, 0)]))
def tr_K1 (f : Nat) (I1 I2 : tk_I) : tk_K := (f, [(2, 0, 0, 0), (0, 1, 1, 0), (0, 2, 1, 0)], ([I1, I2], []), [0], [], ([(some (0, 0, 0, (-1)), ([I1, I2], []), [0], [])], [(0, 0)]))
def tr_chk (V : Nat → Nat → Int) (k : Nat) (ys : List tk_X) : Bool := ys.all (fun y => match y.1, y.2.1.1 with
  | some a, J :: _ => Nat.beq a.1 0 && (Nat.ble a.2.1 1 && (List.range 61).all (fun m => !(decide (J.1 ≤ (m : Int)) && decide ((m : Int) ≤ J.2)) || decide (tk_num [(m : Int)] a = some (V k m))))
  | _, _ => false)
theorem tr_N0 (hU : gc_U tw) (hxt : tk_xtok xt) : tk_KS l D gk_cl gk_tbl gk_xw xt gk_MN gk_P gc_TY lc_ro (gc_X tw) ads tw 4 (tr_K1 175 ((-2147483648), (-1)) ((-2147483648), 2147483647)) := tk_contract (hk := tk_hk0) tk_hk0_ok (gc_xs hU) hxt gk_rok [186, 187, 197, 198, 199] 9000 3 0 (Ks := []) (d := 0) (fun _ h => absurd h List.not_mem_nil) (Hs := []) (by decide +kernel) rfl
theorem tr_N1 (hU : gc_U tw) (hxt : tk_xtok xt) : tk_KS l D gk_cl gk_tbl gk_xw xt gk_MN gk_P gc_TY lc_ro (gc_X tw) ads tw 4 (tr_K1 175 (61, 2147483647) ((-2147483648), 2147483647)) := tk_contract (hk := tk_hk0) tk_hk0_ok (gc_xs hU) hxt gk_rok [186, 187, 197, 198, 199] 9000 3 0 (Ks := []) (d := 0) (fun _ h => absurd h List.not_mem_nil) (Hs := []) (by decide +kernel) rfl
theorem tr_N2 (hU : gc_U tw) (hxt : tk_xtok xt) : tk_KS l D gk_cl gk_tbl gk_xw xt gk_MN gk_P gc_TY lc_ro (gc_X tw) ads tw 4 (tr_K1 175 (0, 60) ((-2147483648), 0)) := tk_contract (hk := tk_hk0) tk_hk0_ok (gc_xs hU) hxt gk_rok [186, 187, 197, 198, 199] 9000 3 0 (Ks := []) (d := 0) (fun _ h => absurd h List.not_mem_nil) (Hs := []) (by decide +kernel) rfl
theorem tr_N3 (hU : gc_U tw) (hxt : tk_xtok xt) : tk_KS l D gk_cl gk_tbl gk_xw xt gk_MN gk_P gc_TY lc_ro (gc_X tw) ads tw 4 (tr_K1 175 (0, 60) (7, 2147483647)) := tk_contract (hk := tk_hk0) tk_hk0_ok (gc_xs hU) hxt gk_rok [186, 187, 197, 198, 199] 9000 3 0 (Ks := []) (d := 0) (fun _ h => absurd h List.not_mem_nil) (Hs := []) (by decide +kernel) rfl
def tr_Y1 : List tk_X := [(some (0, 0, 0, 0), ([(0, 0)], []), [0], []), (some (0, 0, 0, 1), ([(1, 1)], []), [0], []), (some (0, 0, 0, 2), ([(2, 2)], []), [0], []), (some (0, 0, 0, 3), ([(3, 3)], []), [0], []), (some (0, 0, 0, 4), ([(4, 4)], []), [0], []), (some (0, 0, 0, 5), ([(5, 5)], []), [0], []), (some (0, 0, 0, 6), ([(6, 6)], []), [0], []), (some (0, 0, 0, 7), ([(7, 7)], []), [0], []), (some (0, 0, 0, 8), ([(8, 8)], []), [0], []), (some (0, 0, 0, 9), ([(9, 9)], []), [0], []), (some (0, 0, 0, 10), ([(10, 10)], []), [0], []), (some (0, 0, 0, 11), ([(11, 11)], []), [0], []), (some (0, 0, 0, 12), ([(12, 12)], []), [0], []), (some (0, 0, 0, 13), ([(13, 13)], []), [0], []), (some (0, 0, 0, 14), ([(14, 14)], []), [0], []), (some (0, 0, 0, 15), ([(15, 15)], []), [0], []), (some (0, 0, 0, 16), ([(16, 16)], []), [0], []), (some (0, 0, 0, 17), ([(17, 17)], []), [0], []), (some (0, 0, 0, 18), ([(18, 18)], []), [0], []), (some (0, 0, 0, 19), ([(19, 19)], []), [0], []), (some (0, 0, 0, 20), ([(20, 20)], []), [0], []), (some (0, 0, 0, 21), ([(21, 21)], []), [0], []), (some (0, 0, 0, 22), ([(22, 22)], []), [0], []), (some (0, 0, 0, 23), ([(23, 23)], []), [0], []), (some (0, 0, 0, 24), ([(24, 24)], []), [0], []), (some (0, 0, 0, 25), ([(25, 25)], []), [0], []), (some (0, 0, 0, 26), ([(26, 26)], []), [0], []), (some (0, 0, 0, 27), ([(27, 27)], []), [0], []), (some (0, 0, 0, 28), ([(28, 28)], []), [0], []), (some (0, 0, 0, 29), ([(29, 29)], []), [0], []), (some (0, 0, 0, 30), ([(30, 30)], []), [0], []), (some (0, 0, 0, 31), ([(31, 31)], []), [0], []), (some (0, 0, 0, 32), ([(32, 32)], []), [0], []), (some (0, 0, 0, 33), ([(33, 33)], []), [0], []), (some (0, 0, 0, 34), ([(34, 34)], []), [0], []), (some (0, 0, 0, 35), ([(35, 35)], []), [0], []), (some (0, 0, 0, 36), ([(36, 36)], []), [0], []), (some (0, 0, 0, 37), ([(37, 37)], []), [0], []), (some (0, 0, 0, 38), ([(38, 38)], []), [0], []), (some (0, 0, 0, 39), ([(39, 39)], []), [0], []), (some (0, 0, 0, 40), ([(40, 40)], []), [0], []), (some (0, 0, 0, 41), ([(41, 41)], []), [0], []), (some (0, 0, 0, 42), ([(42, 42)], []), [0], []), (some (0, 0, 0, 43), ([(43, 43)], []), [0], []), (some (0, 0, 0, 44), ([(44, 44)], []), [0], []), (some (0, 0, 0, 45), ([(45, 45)], []), [0], []), (some (0, 0, 0, 46), ([(46, 46)], []), [0], []), (some (0, 0, 0, 47), ([(47, 47)], []), [0], []), (some (0, 0, 0, 48), ([(48, 48)], []), [0], []), (some (0, 0, 0, 49), ([(49, 49)], []), [0], []), (some (0, 0, 0, 50), ([(50, 50)], []), [0], []), (some (0, 0, 0, 51), ([(51, 51)], []), [0], []), (some (0, 0, 0, 52), ([(52, 52)], []), [0], []), (some (0, 0, 0, 53), ([(53, 53)], []), [0], []), (some (0, 0, 0, 54), ([(54, 54)], []), [0], []), (some (0, 0, 0, 55), ([(55, 55)], []), [0], []), (some (0, 0, 0, 56), ([(56, 56)], []), [0], []), (some (0, 0, 0, 57), ([(57, 57)], []), [0], []), (some (0, 0, 0, 58), ([(58, 58)], []), [0], []), (some (0, 0, 0, 59), ([(59, 59)], []), [0], []), (some (0, 0, 0, 60), ([(60, 60)], []), [0], [])]
theorem tr_C1 (hU : gc_U tw) (hxt : tk_xtok xt) : tk_KS l D gk_cl gk_tbl gk_xw xt gk_MN gk_P gc_TY lc_ro (gc_X tw) ads tw 4 (tr_K 175 1 tr_Y1) := tk_contract (hk := tk_hk0) tk_hk0_ok (gc_xs hU) hxt gk_rok [186, 187, 197, 198, 199] 9000 3 0 (Ks := []) (d := 0) (fun _ h => absurd h List.not_mem_nil) (Hs := []) (by decide +kernel) rfl
theorem tr_V1 : tr_chk tr_v 1 tr_Y1 = true := by decide +kernel
def tr_Y2 : List tk_X := [(some (0, 0, 0, 0), ([(0, 0)], []), [0], []), (some (0, 0, 0, 1), ([(1, 1)], []), [0], []), (some (0, 0, 0, 2), ([(2, 3)], []), [0], []), (some (0, 0, 0, 3), ([(4, 6)], []), [0], []), (some (0, 0, 0, 4), ([(7, 10)], []), [0], []), (some (0, 0, 0, 5), ([(11, 15)], []), [0], []), (some (0, 0, 0, 6), ([(16, 21)], []), [0], []), (some (0, 0, 0, 7), ([(22, 28)], []), [0], []), (some (0, 0, 0, 8), ([(29, 36)], []), [0], []), (some (0, 0, 0, 9), ([(37, 45)], []), [0], []), (some (0, 0, 0, 10), ([(46, 55)], []), [0], []), (some (0, 0, 0, 11), ([(56, 60)], []), [0], [])]
theorem tr_C2 (hU : gc_U tw) (hxt : tk_xtok xt) : tk_KS l D gk_cl gk_tbl gk_xw xt gk_MN gk_P gc_TY lc_ro (gc_X tw) ads tw 4 (tr_K 175 2 tr_Y2) := tk_contract (hk := tk_hk0) tk_hk0_ok (gc_xs hU) hxt gk_rok [186, 187, 197, 198, 199] 9000 3 0 (Ks := []) (d := 0) (fun _ h => absurd h List.not_mem_nil) (Hs := []) (by decide +kernel) rfl
theorem tr_V2 : tr_chk tr_v 2 tr_Y2 = true := by decide +kernel
def tr_Y3 : List tk_X := [(some (0, 0, 0, 0), ([(0, 0)], []), [0], []), (some (0, 0, 0, 1), ([(1, 1)], []), [0], []), (some (0, 0, 0, 2), ([(2, 3)], []), [0], []), (some (0, 0, 0, 3), ([(4, 7)], []), [0], []), (some (0, 0, 0, 4), ([(8, 14)], []), [0], []), (some (0, 0, 0, 5), ([(15, 25)], []), [0], []), (some (0, 0, 0, 6), ([(26, 41)], []), [0], []), (some (0, 0, 0, 7), ([(42, 60)], []), [0], [])]
theorem tr_C3 (hU : gc_U tw) (hxt : tk_xtok xt) : tk_KS l D gk_cl gk_tbl gk_xw xt gk_MN gk_P gc_TY lc_ro (gc_X tw) ads tw 4 (tr_K 175 3 tr_Y3) := tk_contract (hk := tk_hk0) tk_hk0_ok (gc_xs hU) hxt gk_rok [186, 187, 197, 198, 199] 9000 3 0 (Ks := []) (d := 0) (fun _ h => absurd h List.not_mem_nil) (Hs := []) (by decide +kernel) rfl
theorem tr_V3 : tr_chk tr_v 3 tr_Y3 = true := by decide +kernel
def tr_Y4 : List tk_X := [(some (0, 0, 0, 0), ([(0, 0)], []), [0], []), (some (0, 0, 0, 1), ([(1, 1)], []), [0], []), (some (0, 0, 0, 2), ([(2, 3)], []), [0], []), (some (0, 0, 0, 3), ([(4, 7)], []), [0], []), (some (0, 0, 0, 4), ([(8, 15)], []), [0], []), (some (0, 0, 0, 5), ([(16, 30)], []), [0], []), (some (0, 0, 0, 6), ([(31, 56)], []), [0], []), (some (0, 0, 0, 7), ([(57, 60)], []), [0], [])]
theorem tr_C4 (hU : gc_U tw) (hxt : tk_xtok xt) : tk_KS l D gk_cl gk_tbl gk_xw xt gk_MN gk_P gc_TY lc_ro (gc_X tw) ads tw 4 (tr_K 175 4 tr_Y4) := tk_contract (hk := tk_hk0) tk_hk0_ok (gc_xs hU) hxt gk_rok [186, 187, 197, 198, 199] 9000 3 0 (Ks := []) (d := 0) (fun _ h => absurd h List.not_mem_nil) (Hs := []) (by decide +kernel) rfl
theorem tr_V4 : tr_chk tr_v 4 tr_Y4 = true := by decide +kernel
def tr_Y5 : List tk_X := [(some (0, 0, 0, 0), ([(0, 0)], []), [0], []), (some (0, 0, 0, 1), ([(1, 1)], []), [0], []), (some (0, 0, 0, 2), ([(2, 3)], []), [0], []), (some (0, 0, 0, 3), ([(4, 7)], []), [0], []), (some (0, 0, 0, 4), ([(8, 15)], []), [0], []), (some (0, 0, 0, 5), ([(16, 31)], []), [0], []), (some (0, 0, 0, 6), ([(32, 60)], []), [0], [])]
theorem tr_C5 (hU : gc_U tw) (hxt : tk_xtok xt) : tk_KS l D gk_cl gk_tbl gk_xw xt gk_MN gk_P gc_TY lc_ro (gc_X tw) ads tw 4 (tr_K 175 5 tr_Y5) := tk_contract (hk := tk_hk0) tk_hk0_ok (gc_xs hU) hxt gk_rok [186, 187, 197, 198, 199] 9000 3 0 (Ks := []) (d := 0) (fun _ h => absurd h List.not_mem_nil) (Hs := []) (by decide +kernel) rfl
theorem tr_V5 : tr_chk tr_v 5 tr_Y5 = true := by decide +kernel
def tr_Y6 : List tk_X := [(some (0, 0, 0, 0), ([(0, 0)], []), [0], []), (some (0, 0, 0, 1), ([(1, 1)], []), [0], []), (some (0, 0, 0, 2), ([(2, 3)], []), [0], []), (some (0, 0, 0, 3), ([(4, 7)], []), [0], []), (some (0, 0, 0, 4), ([(8, 15)], []), [0], []), (some (0, 0, 0, 5), ([(16, 31)], []), [0], []), (some (0, 0, 0, 6), ([(32, 60)], []), [0], [])]
theorem tr_C6 (hU : gc_U tw) (hxt : tk_xtok xt) : tk_KS l D gk_cl gk_tbl gk_xw xt gk_MN gk_P gc_TY lc_ro (gc_X tw) ads tw 4 (tr_K 175 6 tr_Y6) := tk_contract (hk := tk_hk0) tk_hk0_ok (gc_xs hU) hxt gk_rok [186, 187, 197, 198, 199] 9000 3 0 (Ks := []) (d := 0) (fun _ h => absurd h List.not_mem_nil) (Hs := []) (by decide +kernel) rfl
theorem tr_V6 : tr_chk tr_v 6 tr_Y6 = true := by decide +kernel
theorem tf_N0 (hU : gc_U tw) (hxt : tk_xtok xt) : tk_KS l D gk_cl gk_tbl gk_xw xt gk_MN gk_P gc_TY lc_ro (gc_X tw) ads tw 4 (tr_K1 176 ((-2147483648), (-1)) ((-2147483648), 2147483647)) := tk_contract (hk := tk_hk0) tk_hk0_ok (gc_xs hU) hxt gk_rok [186, 187, 197, 198, 199] 9000 3 0 (Ks := []) (d := 0) (fun _ h => absurd h List.not_mem_nil) (Hs := []) (by decide +kernel) rfl
theorem tf_N1 (hU : gc_U tw) (hxt : tk_xtok xt) : tk_KS l D gk_cl gk_tbl gk_xw xt gk_MN gk_P gc_TY lc_ro (gc_X tw) ads tw 4 (tr_K1 176 (61, 2147483647) ((-2147483648), 2147483647)) := tk_contract (hk := tk_hk0) tk_hk0_ok (gc_xs hU) hxt gk_rok [186, 187, 197, 198, 199] 9000 3 0 (Ks := []) (d := 0) (fun _ h => absurd h List.not_mem_nil) (Hs := []) (by decide +kernel) rfl
theorem tf_N2 (hU : gc_U tw) (hxt : tk_xtok xt) : tk_KS l D gk_cl gk_tbl gk_xw xt gk_MN gk_P gc_TY lc_ro (gc_X tw) ads tw 4 (tr_K1 176 (0, 60) ((-2147483648), 0)) := tk_contract (hk := tk_hk0) tk_hk0_ok (gc_xs hU) hxt gk_rok [186, 187, 197, 198, 199] 9000 3 0 (Ks := []) (d := 0) (fun _ h => absurd h List.not_mem_nil) (Hs := []) (by decide +kernel) rfl
theorem tf_N3 (hU : gc_U tw) (hxt : tk_xtok xt) : tk_KS l D gk_cl gk_tbl gk_xw xt gk_MN gk_P gc_TY lc_ro (gc_X tw) ads tw 4 (tr_K1 176 (0, 60) (7, 2147483647)) := tk_contract (hk := tk_hk0) tk_hk0_ok (gc_xs hU) hxt gk_rok [186, 187, 197, 198, 199] 9000 3 0 (Ks := []) (d := 0) (fun _ h => absurd h List.not_mem_nil) (Hs := []) (by decide +kernel) rfl
def tf_Y1 : List tk_X := [(some (0, 0, 0, (-1)), ([(0, 0)], []), [0], []), (some (0, 0, 0, 1), ([(1, 1)], []), [0], []), (some (0, 1, 1, 0), ([(1, 1)], []), [0], []), (some (0, 0, 0, 1), ([(2, 2)], []), [0], []), (some (0, 1, 1, (-1)), ([(2, 2)], []), [0], []), (some (0, 0, 0, 1), ([(3, 3)], []), [0], []), (some (0, 1, 1, (-2)), ([(3, 3)], []), [0], []), (some (0, 0, 0, 1), ([(4, 4)], []), [0], []), (some (0, 1, 1, (-3)), ([(4, 4)], []), [0], []), (some (0, 0, 0, 1), ([(5, 5)], []), [0], []), (some (0, 1, 1, (-4)), ([(5, 5)], []), [0], []), (some (0, 0, 0, 1), ([(6, 6)], []), [0], []), (some (0, 1, 1, (-5)), ([(6, 6)], []), [0], []), (some (0, 0, 0, 1), ([(7, 7)], []), [0], []), (some (0, 1, 1, (-6)), ([(7, 7)], []), [0], []), (some (0, 0, 0, 1), ([(8, 8)], []), [0], []), (some (0, 1, 1, (-7)), ([(8, 8)], []), [0], []), (some (0, 0, 0, 1), ([(9, 9)], []), [0], []), (some (0, 1, 1, (-8)), ([(9, 9)], []), [0], []), (some (0, 0, 0, 1), ([(10, 10)], []), [0], []), (some (0, 1, 1, (-9)), ([(10, 10)], []), [0], []), (some (0, 0, 0, 1), ([(11, 11)], []), [0], []), (some (0, 1, 1, (-10)), ([(11, 11)], []), [0], []), (some (0, 0, 0, 1), ([(12, 12)], []), [0], []), (some (0, 1, 1, (-11)), ([(12, 12)], []), [0], []), (some (0, 0, 0, 1), ([(13, 13)], []), [0], []), (some (0, 1, 1, (-12)), ([(13, 13)], []), [0], []), (some (0, 0, 0, 1), ([(14, 14)], []), [0], []), (some (0, 1, 1, (-13)), ([(14, 14)], []), [0], []), (some (0, 0, 0, 1), ([(15, 15)], []), [0], []), (some (0, 1, 1, (-14)), ([(15, 15)], []), [0], []), (some (0, 0, 0, 1), ([(16, 16)], []), [0], []), (some (0, 1, 1, (-15)), ([(16, 16)], []), [0], []), (some (0, 0, 0, 1), ([(17, 17)], []), [0], []), (some (0, 1, 1, (-16)), ([(17, 17)], []), [0], []), (some (0, 0, 0, 1), ([(18, 18)], []), [0], []), (some (0, 1, 1, (-17)), ([(18, 18)], []), [0], []), (some (0, 0, 0, 1), ([(19, 19)], []), [0], []), (some (0, 1, 1, (-18)), ([(19, 19)], []), [0], []), (some (0, 0, 0, 1), ([(20, 20)], []), [0], []), (some (0, 1, 1, (-19)), ([(20, 20)], []), [0], []), (some (0, 0, 0, 1), ([(21, 21)], []), [0], []), (some (0, 1, 1, (-20)), ([(21, 21)], []), [0], []), (some (0, 0, 0, 1), ([(22, 22)], []), [0], []), (some (0, 1, 1, (-21)), ([(22, 22)], []), [0], []), (some (0, 0, 0, 1), ([(23, 23)], []), [0], []), (some (0, 1, 1, (-22)), ([(23, 23)], []), [0], []), (some (0, 0, 0, 1), ([(24, 24)], []), [0], []), (some (0, 1, 1, (-23)), ([(24, 24)], []), [0], []), (some (0, 0, 0, 1), ([(25, 25)], []), [0], []), (some (0, 1, 1, (-24)), ([(25, 25)], []), [0], []), (some (0, 0, 0, 1), ([(26, 26)], []), [0], []), (some (0, 1, 1, (-25)), ([(26, 26)], []), [0], []), (some (0, 0, 0, 1), ([(27, 27)], []), [0], []), (some (0, 1, 1, (-26)), ([(27, 27)], []), [0], []), (some (0, 0, 0, 1), ([(28, 28)], []), [0], []), (some (0, 1, 1, (-27)), ([(28, 28)], []), [0], []), (some (0, 0, 0, 1), ([(29, 29)], []), [0], []), (some (0, 1, 1, (-28)), ([(29, 29)], []), [0], []), (some (0, 0, 0, 1), ([(30, 30)], []), [0], []), (some (0, 1, 1, (-29)), ([(30, 30)], []), [0], []), (some (0, 0, 0, 1), ([(31, 31)], []), [0], []), (some (0, 1, 1, (-30)), ([(31, 31)], []), [0], []), (some (0, 0, 0, 1), ([(32, 32)], []), [0], []), (some (0, 1, 1, (-31)), ([(32, 32)], []), [0], []), (some (0, 0, 0, 1), ([(33, 33)], []), [0], []), (some (0, 1, 1, (-32)), ([(33, 33)], []), [0], []), (some (0, 0, 0, 1), ([(34, 34)], []), [0], []), (some (0, 1, 1, (-33)), ([(34, 34)], []), [0], []), (some (0, 0, 0, 1), ([(35, 35)], []), [0], []), (some (0, 1, 1, (-34)), ([(35, 35)], []), [0], []), (some (0, 0, 0, 1), ([(36, 36)], []), [0], []), (some (0, 1, 1, (-35)), ([(36, 36)], []), [0], []), (some (0, 0, 0, 1), ([(37, 37)], []), [0], []), (some (0, 1, 1, (-36)), ([(37, 37)], []), [0], []), (some (0, 0, 0, 1), ([(38, 38)], []), [0], []), (some (0, 1, 1, (-37)), ([(38, 38)], []), [0], []), (some (0, 0, 0, 1), ([(39, 39)], []), [0], []), (some (0, 1, 1, (-38)), ([(39, 39)], []), [0], []), (some (0, 0, 0, 1), ([(40, 40)], []), [0], []), (some (0, 1, 1, (-39)), ([(40, 40)], []), [0], []), (some (0, 0, 0, 1), ([(41, 41)], []), [0], []), (some (0, 1, 1, (-40)), ([(41, 41)], []), [0], []), (some (0, 0, 0, 1), ([(42, 42)], []), [0], []), (some (0, 1, 1, (-41)), ([(42, 42)], []), [0], []), (some (0, 0, 0, 1), ([(43, 43)], []), [0], []), (some (0, 1, 1, (-42)), ([(43, 43)], []), [0], []), (some (0, 0, 0, 1), ([(44, 44)], []), [0], []), (some (0, 1, 1, (-43)), ([(44, 44)], []), [0], []), (some (0, 0, 0, 1), ([(45, 45)], []), [0], []), (some (0, 1, 1, (-44)), ([(45, 45)], []), [0], []), (some (0, 0, 0, 1), ([(46, 46)], []), [0], []), (some (0, 1, 1, (-45)), ([(46, 46)], []), [0], []), (some (0, 0, 0, 1), ([(47, 47)], []), [0], []), (some (0, 1, 1, (-46)), ([(47, 47)], []), [0], []), (some (0, 0, 0, 1), ([(48, 48)], []), [0], []), (some (0, 1, 1, (-47)), ([(48, 48)], []), [0], []), (some (0, 0, 0, 1), ([(49, 49)], []), [0], []), (some (0, 1, 1, (-48)), ([(49, 49)], []), [0], []), (some (0, 0, 0, 1), ([(50, 50)], []), [0], []), (some (0, 1, 1, (-49)), ([(50, 50)], []), [0], []), (some (0, 0, 0, 1), ([(51, 51)], []), [0], []), (some (0, 1, 1, (-50)), ([(51, 51)], []), [0], []), (some (0, 0, 0, 1), ([(52, 52)], []), [0], []), (some (0, 1, 1, (-51)), ([(52, 52)], []), [0], []), (some (0, 0, 0, 1), ([(53, 53)], []), [0], []), (some (0, 1, 1, (-52)), ([(53, 53)], []), [0], []), (some (0, 0, 0, 1), ([(54, 54)], []), [0], []), (some (0, 1, 1, (-53)), ([(54, 54)], []), [0], []), (some (0, 0, 0, 1), ([(55, 55)], []), [0], []), (some (0, 1, 1, (-54)), ([(55, 55)], []), [0], []), (some (0, 0, 0, 1), ([(56, 56)], []), [0], []), (some (0, 1, 1, (-55)), ([(56, 56)], []), [0], []), (some (0, 0, 0, 1), ([(57, 57)], []), [0], []), (some (0, 1, 1, (-56)), ([(57, 57)], []), [0], []), (some (0, 0, 0, 1), ([(58, 58)], []), [0], []), (some (0, 1, 1, (-57)), ([(58, 58)], []), [0], []), (some (0, 0, 0, 1), ([(59, 59)], []), [0], []), (some (0, 1, 1, (-58)), ([(59, 59)], []), [0], []), (some (0, 0, 0, 1), ([(60, 60)], []), [0], []), (some (0, 1, 1, (-59)), ([(60, 60)], []), [0], [])]
theorem tf_C1 (hU : gc_U tw) (hxt : tk_xtok xt) : tk_KS l D gk_cl gk_tbl gk_xw xt gk_MN gk_P gc_TY lc_ro (gc_X tw) ads tw 4 (tr_K 176 1 tf_Y1) := tk_contract (hk := tk_hk0) tk_hk0_ok (gc_xs hU) hxt gk_rok [186, 187, 197, 198, 199] 9000 3 0 (Ks := []) (d := 0) (fun _ h => absurd h List.not_mem_nil) (Hs := []) (by decide +kernel) rfl
theorem tf_V1 : tr_chk tf_w 1 tf_Y1 = true := by decide +kernel
def tf_Y2 : List tk_X := [(some (0, 0, 0, (-1)), ([(0, 0)], []), [0], []), (some (0, 0, 0, 1), ([(1, 1)], []), [0], []), (some (0, 1, 1, 0), ([(1, 1)], []), [0], []), (some (0, 0, 0, 1), ([(2, 2)], []), [0], []), (some (0, 1, 1, (-1)), ([(2, 3)], []), [0], []), (some (0, 0, 0, 1), ([(4, 4)], []), [0], []), (some (0, 1, 1, (-3)), ([(4, 6)], []), [0], []), (some (0, 0, 0, 1), ([(7, 7)], []), [0], []), (some (0, 1, 1, (-6)), ([(7, 10)], []), [0], []), (some (0, 0, 0, 1), ([(11, 11)], []), [0], []), (some (0, 1, 1, (-10)), ([(11, 15)], []), [0], []), (some (0, 0, 0, 1), ([(16, 16)], []), [0], []), (some (0, 1, 1, (-15)), ([(16, 21)], []), [0], []), (some (0, 0, 0, 1), ([(22, 22)], []), [0], []), (some (0, 1, 1, (-21)), ([(22, 28)], []), [0], []), (some (0, 0, 0, 1), ([(29, 29)], []), [0], []), (some (0, 1, 1, (-28)), ([(29, 36)], []), [0], []), (some (0, 0, 0, 1), ([(37, 37)], []), [0], []), (some (0, 1, 1, (-36)), ([(37, 45)], []), [0], []), (some (0, 0, 0, 1), ([(46, 46)], []), [0], []), (some (0, 1, 1, (-45)), ([(46, 55)], []), [0], []), (some (0, 0, 0, 1), ([(56, 56)], []), [0], []), (some (0, 1, 1, (-55)), ([(56, 60)], []), [0], [])]
theorem tf_C2 (hU : gc_U tw) (hxt : tk_xtok xt) : tk_KS l D gk_cl gk_tbl gk_xw xt gk_MN gk_P gc_TY lc_ro (gc_X tw) ads tw 4 (tr_K 176 2 tf_Y2) := tk_contract (hk := tk_hk0) tk_hk0_ok (gc_xs hU) hxt gk_rok [186, 187, 197, 198, 199] 9000 3 0 (Ks := []) (d := 0) (fun _ h => absurd h List.not_mem_nil) (Hs := []) (by decide +kernel) rfl
theorem tf_V2 : tr_chk tf_w 2 tf_Y2 = true := by decide +kernel
def tf_Y3 : List tk_X := [(some (0, 0, 0, (-1)), ([(0, 0)], []), [0], []), (some (0, 0, 0, 1), ([(1, 1)], []), [0], []), (some (0, 1, 1, 0), ([(1, 1)], []), [0], []), (some (0, 0, 0, 1), ([(2, 2)], []), [0], []), (some (0, 1, 1, (-1)), ([(2, 3)], []), [0], []), (some (0, 0, 0, 1), ([(4, 4)], []), [0], []), (some (0, 1, 1, (-3)), ([(4, 7)], []), [0], []), (some (0, 0, 0, 1), ([(8, 8)], []), [0], []), (some (0, 1, 1, (-7)), ([(8, 14)], []), [0], []), (some (0, 0, 0, 1), ([(15, 15)], []), [0], []), (some (0, 1, 1, (-14)), ([(15, 25)], []), [0], []), (some (0, 0, 0, 1), ([(26, 26)], []), [0], []), (some (0, 1, 1, (-25)), ([(26, 41)], []), [0], []), (some (0, 0, 0, 1), ([(42, 42)], []), [0], []), (some (0, 1, 1, (-41)), ([(42, 60)], []), [0], [])]
theorem tf_C3 (hU : gc_U tw) (hxt : tk_xtok xt) : tk_KS l D gk_cl gk_tbl gk_xw xt gk_MN gk_P gc_TY lc_ro (gc_X tw) ads tw 4 (tr_K 176 3 tf_Y3) := tk_contract (hk := tk_hk0) tk_hk0_ok (gc_xs hU) hxt gk_rok [186, 187, 197, 198, 199] 9000 3 0 (Ks := []) (d := 0) (fun _ h => absurd h List.not_mem_nil) (Hs := []) (by decide +kernel) rfl
theorem tf_V3 : tr_chk tf_w 3 tf_Y3 = true := by decide +kernel
def tf_Y4 : List tk_X := [(some (0, 0, 0, (-1)), ([(0, 0)], []), [0], []), (some (0, 0, 0, 1), ([(1, 1)], []), [0], []), (some (0, 1, 1, 0), ([(1, 1)], []), [0], []), (some (0, 0, 0, 1), ([(2, 2)], []), [0], []), (some (0, 1, 1, (-1)), ([(2, 3)], []), [0], []), (some (0, 0, 0, 1), ([(4, 4)], []), [0], []), (some (0, 1, 1, (-3)), ([(4, 7)], []), [0], []), (some (0, 0, 0, 1), ([(8, 8)], []), [0], []), (some (0, 1, 1, (-7)), ([(8, 15)], []), [0], []), (some (0, 0, 0, 1), ([(16, 16)], []), [0], []), (some (0, 1, 1, (-15)), ([(16, 30)], []), [0], []), (some (0, 0, 0, 1), ([(31, 31)], []), [0], []), (some (0, 1, 1, (-30)), ([(31, 56)], []), [0], []), (some (0, 0, 0, 1), ([(57, 57)], []), [0], []), (some (0, 1, 1, (-56)), ([(57, 60)], []), [0], [])]
theorem tf_C4 (hU : gc_U tw) (hxt : tk_xtok xt) : tk_KS l D gk_cl gk_tbl gk_xw xt gk_MN gk_P gc_TY lc_ro (gc_X tw) ads tw 4 (tr_K 176 4 tf_Y4) := tk_contract (hk := tk_hk0) tk_hk0_ok (gc_xs hU) hxt gk_rok [186, 187, 197, 198, 199] 9000 3 0 (Ks := []) (d := 0) (fun _ h => absurd h List.not_mem_nil) (Hs := []) (by decide +kernel) rfl
theorem tf_V4 : tr_chk tf_w 4 tf_Y4 = true := by decide +kernel
def tf_Y5 : List tk_X := [(some (0, 0, 0, (-1)), ([(0, 0)], []), [0], []), (some (0, 0, 0, 1), ([(1, 1)], []), [0], []), (some (0, 1, 1, 0), ([(1, 1)], []), [0], []), (some (0, 0, 0, 1), ([(2, 2)], []), [0], []), (some (0, 1, 1, (-1)), ([(2, 3)], []), [0], []), (some (0, 0, 0, 1), ([(4, 4)], []), [0], []), (some (0, 1, 1, (-3)), ([(4, 7)], []), [0], []), (some (0, 0, 0, 1), ([(8, 8)], []), [0], []), (some (0, 1, 1, (-7)), ([(8, 15)], []), [0], []), (some (0, 0, 0, 1), ([(16, 16)], []), [0], []), (some (0, 1, 1, (-15)), ([(16, 31)], []), [0], []), (some (0, 0, 0, 1), ([(32, 32)], []), [0], []), (some (0, 1, 1, (-31)), ([(32, 60)], []), [0], [])]
theorem tf_C5 (hU : gc_U tw) (hxt : tk_xtok xt) : tk_KS l D gk_cl gk_tbl gk_xw xt gk_MN gk_P gc_TY lc_ro (gc_X tw) ads tw 4 (tr_K 176 5 tf_Y5) := tk_contract (hk := tk_hk0) tk_hk0_ok (gc_xs hU) hxt gk_rok [186, 187, 197, 198, 199] 9000 3 0 (Ks := []) (d := 0) (fun _ h => absurd h List.not_mem_nil) (Hs := []) (by decide +kernel) rfl
theorem tf_V5 : tr_chk tf_w 5 tf_Y5 = true := by decide +kernel
def tf_Y6 : List tk_X := [(some (0, 0, 0, (-1)), ([(0, 0)], []), [0], []), (some (0, 0, 0, 1), ([(1, 1)], []), [0], []), (some (0, 1, 1, 0), ([(1, 1)], []), [0], []), (some (0, 0, 0, 1), ([(2, 2)], []), [0], []), (some (0, 1, 1, (-1)), ([(2, 3)], []), [0], []), (some (0, 0, 0, 1), ([(4, 4)], []), [0], []), (some (0, 1, 1, (-3)), ([(4, 7)], []), [0], []), (some (0, 0, 0, 1), ([(8, 8)], []), [0], []), (some (0, 1, 1, (-7)), ([(8, 15)], []), [0], []), (some (0, 0, 0, 1), ([(16, 16)], []), [0], []), (some (0, 1, 1, (-15)), ([(16, 31)], []), [0], []), (some (0, 0, 0, 1), ([(32, 32)], []), [0], []), (some (0, 1, 1, (-31)), ([(32, 60)], []), [0], [])]
theorem tf_C6 (hU : gc_U tw) (hxt : tk_xtok xt) : tk_KS l D gk_cl gk_tbl gk_xw xt gk_MN gk_P gc_TY lc_ro (gc_X tw) ads tw 4 (tr_K 176 6 tf_Y6) := tk_contract (hk := tk_hk0) tk_hk0_ok (gc_xs hU) hxt gk_rok [186, 187, 197, 198, 199] 9000 3 0 (Ks := []) (d := 0) (fun _ h => absurd h List.not_mem_nil) (Hs := []) (by decide +kernel) rfl
theorem tf_V6 : tr_chk tf_w 6 tf_Y6 = true := by decide +kernel
theorem tr_semC {f : Nat} {V : Nat → Nat → Int} {Y : Nat → List tk_X} (hN : ∀ (I1 I2 : tk_I), (I1, I2) ∈ [(((-2147483648), (-1)), ((-2147483648), 2147483647)), ((61, 2147483647), ((-2147483648), 2147483647)), ((0, 60), ((-2147483648), 0)), ((0, 60), (7, 2147483647))] → tk_KS l D gk_cl gk_tbl gk_xw xt gk_MN gk_P gc_TY lc_ro (gc_X lw_twC) ads lw_twC 4 (tr_K1 f I1 I2)) (hC : ∀ b, 1 ≤ b → b ≤ 6 → tk_KS l D gk_cl gk_tbl gk_xw xt gk_MN gk_P gc_TY lc_ro (gc_X lw_twC) ads lw_twC 4 (tr_K f b (Y b)) ∧ tr_chk V b (Y b) = true) : lw_sem l D xt gc_TY (gc_X lw_twC) ads lw_twC 4 f [0, 0] [gn_i, gn_i] (tr_Q V) := by
  refine lw_sem_K (fun U ax ws av a1 a2 a3 a4 a5 a6 => ?_)
  obtain ⟨v1, r1, rfl, h1, a2'⟩ := rk_A2.cons (show rk_A2 lq_av [(0, gn_i), (0, gn_i)] av from a2)
  obtain ⟨v2, r2, rfl, h2, a2''⟩ := a2'.cons
  obtain rfl := a2''.nil
  rcases h1 with ⟨-, x, rfl, -⟩ | ⟨h1, -⟩
  · rcases h2 with ⟨-, y, rfl, -⟩ | ⟨h2, -⟩
    · have bad : ∀ I1 I2 : tk_I, (I1, I2) ∈ [(((-2147483648), (-1)), ((-2147483648), 2147483647)), ((61, 2147483647), ((-2147483648), 2147483647)), ((0, 60), ((-2147483648), 0)), ((0, 60), (7, 2147483647))] → I1.1 ≤ x.toInt → x.toInt ≤ I1.2 → I2.1 ≤ y.toInt → y.toInt ≤ I2.2 → ¬ tr_ok x y → ∃ (as : List tk_V) (w : tk_W) (rf rads : List Nat) (fa : tk_FA) (ys : List tk_X) (mods : List (Nat × Nat)) (vals : List Int), tk_KS l D gk_cl gk_tbl gk_xw xt gk_MN gk_P gc_TY lc_ro (gc_X lw_twC) ads lw_twC 4 (f, (2, 0, 0, 0) :: as, w, 0 :: rf, fa, ys, mods) ∧ tk_H w vals ∧ rk_A2 (fun t y => tk_ty ads lw_twC t y) rf rads ∧ rk_A2 (tk_g vals (ax :: rads)) as [.int x, .int y] ∧ (∀ z ∈ fa, tk_fk vals (ax :: rads) ws z) ∧ ∀ y2 ∈ ys, ∀ (t : State) (vals' : List Int) (rads' : List Nat) (ws' : va_W) (oc : Outcome), (∃ k, vals' = vals ++ k) → (∃ k, rads' = (ax :: rads) ++ k) → tk_H y2.2.1 vals' → (∀ q ∈ y2.2.2.2, tk_fk vals' rads' ws' q) → ws'.map Prod.fst = ads → rk_A2 (fun b (q : Nat × va_E) => tk_cl gc_TY lc_ro ads lw_twC t b q.2) lw_twC ws' → tk_un gc_TY mods lw_twC ws ws' → tk_ret y2.1 vals' rads' oc → ∃ v, oc = .returned (some v) ∧ tr_Q V [.int x, .int y] ws ws' v := by
        intro I1 I2 hm b1 b2 b3 b4 hno
        refine ⟨_, _, [], [], [], _, _, [x.toInt, y.toInt], hN I1 I2 hm, ⟨⟨⟨b1, b2⟩, ⟨b3, b4⟩, trivial⟩, fun q hq => absurd hq List.not_mem_nil⟩, trivial, ⟨⟨x, rfl, by show some (1 * x.toInt + 0) = _; congr 1; omega⟩, ⟨y, rfl, by show some (1 * y.toInt + 0) = _; congr 1; omega⟩, trivial⟩, fun z hz => absurd hz List.not_mem_nil, fun y2 hy t vals' rads' ws' oc k1 k2 k3 k4 k5 k6 k7 k8 => ?_⟩
        rw [List.mem_singleton.mp hy] at k8
        obtain ⟨u, hg, eu⟩ := k8
        obtain ⟨z, rfl, hz⟩ := tk_g_int hg
        exact ⟨_, eu, x, y, z, rfl, rfl, Or.inl ⟨hno, hz⟩⟩
      have rx := fm_i32 x
      have ry := fm_i32 y
      by_cases c1 : x.toInt ≤ -1
      · exact bad ((-2147483648), (-1)) ((-2147483648), 2147483647) (by decide) rx.1 c1 ry.1 ry.2 (fun h => by have := h.1; omega)
      by_cases c2 : 61 ≤ x.toInt
      · exact bad (61, 2147483647) ((-2147483648), 2147483647) (by decide) c2 rx.2 ry.1 ry.2 (fun h => by have := h.2.1; omega)
      by_cases c3 : y.toInt ≤ 0
      · exact bad (0, 60) ((-2147483648), 0) (by decide) (by show (0 : Int) ≤ _; omega) (by show _ ≤ (60 : Int); omega) ry.1 c3 (fun h => by have := h.2.2.1; omega)
      by_cases c4 : 7 ≤ y.toInt
      · exact bad (0, 60) (7, 2147483647) (by decide) (by show (0 : Int) ≤ _; omega) (by show _ ≤ (60 : Int); omega) c4 ry.2 (fun h => by have := h.2.2.2; omega)
      obtain ⟨m, hm, rfl⟩ := nI_bd (x := x) (n := 60) (by omega) (by omega)
      obtain ⟨k, hk, rfl⟩ := nI_bd (x := y) (n := 6) (by omega) (by omega)
      have hk1 : 1 ≤ k := by rw [nI_i32 (by omega)] at c3; omega
      obtain ⟨hK, hV⟩ := hC k hk1 hk
      have hmi : (nI m).toInt = (m : Int) := nI_i32 (by omega)
      refine ⟨_, _, [], [], [], _, _, [(nI m).toInt], hK, ⟨⟨⟨by show (0 : Int) ≤ _; omega, by show _ ≤ (60 : Int); omega⟩, trivial⟩, fun q hq => absurd hq List.not_mem_nil⟩, trivial, ⟨⟨nI m, rfl, by show some (1 * (nI m).toInt + 0) = _; congr 1; omega⟩, tk_g_of (by omega), trivial⟩, fun z hz => absurd hz List.not_mem_nil, fun y2 hy t vals' rads' ws' oc k1 k2 k3 k4 k5 k6 k7 k8 => ?_⟩
      have hv := List.all_eq_true.mp hV y2 hy
      split at hv
      · next a J r ha hJ =>
        rw [Bool.and_eq_true, Bool.and_eq_true] at hv
        obtain ⟨q1, q2, q3⟩ := hv
        rw [ha] at k8
        obtain ⟨u, hg, eu⟩ := k8
        obtain ⟨z, rfl, hz⟩ := tk_g0 hg (Nat.eq_of_beq_eq_true q1)
        refine ⟨_, eu, nI m, nI k, z, rfl, rfl, Or.inr ⟨m, k, hm, hk1, hk, rfl, rfl, ?_⟩⟩
        obtain ⟨kk, rfl⟩ := k1
        have hE := k3.1
        rw [hJ] at hE
        have hE : (J.1 ≤ (nI m).toInt ∧ (nI m).toInt ≤ J.2) ∧ _ := hE
        have q3 := List.all_eq_true.mp q3 m (List.mem_range.mpr (by omega))
        rw [Bool.or_eq_true] at q3
        rcases q3 with q3 | q3
        · rw [Bool.not_eq_true', Bool.and_eq_false_iff, decide_eq_false_iff_not, decide_eq_false_iff_not] at q3
          rw [hmi] at hE
          rcases q3 with q3 | q3
          · exact absurd hE.1.1 q3
          · exact absurd hE.1.2 q3
        · have q3 := of_decide_eq_true q3
          rw [← hmi] at q3
          have := tk_num_grow kk q3
          rw [show [(nI m).toInt] ++ kk = [(nI m).toInt] ++ kk from rfl] at this
          rw [hz] at this
          exact Option.some.inj this
      · cases hv
    · cases h2
  · cases h1

theorem tr_C (hxt : tk_xtok xt) : lw_sem l D xt gc_TY (gc_X lw_twC) ads lw_twC 4 175 [0, 0] [gn_i, gn_i] (tr_Q tr_v) := tr_semC (Y := fun b => match b with
  | 1 => tr_Y1
  | 2 => tr_Y2
  | 3 => tr_Y3
  | 4 => tr_Y4
  | 5 => tr_Y5
  | _ => tr_Y6) (fun I1 I2 h => by
    rcases List.mem_cons.mp h with h | h
    · injection h with a b; rw [a, b]; exact tr_N0 lw_gcU hxt
    rcases List.mem_cons.mp h with h | h
    · injection h with a b; rw [a, b]; exact tr_N1 lw_gcU hxt
    rcases List.mem_cons.mp h with h | h
    · injection h with a b; rw [a, b]; exact tr_N2 lw_gcU hxt
    rcases List.mem_cons.mp h with h | h
    · injection h with a b; rw [a, b]; exact tr_N3 lw_gcU hxt
    exact absurd h List.not_mem_nil) (fun b h1 h2 => by
    rcases (by omega : b = 1 ∨ b = 2 ∨ b = 3 ∨ b = 4 ∨ b = 5 ∨ b = 6) with rfl | rfl | rfl | rfl | rfl | rfl
    · exact ⟨tr_C1 lw_gcU hxt, tr_V1⟩
    · exact ⟨tr_C2 lw_gcU hxt, tr_V2⟩
    · exact ⟨tr_C3 lw_gcU hxt, tr_V3⟩
    · exact ⟨tr_C4 lw_gcU hxt, tr_V4⟩
    · exact ⟨tr_C5 lw_gcU hxt, tr_V5⟩
    · exact ⟨tr_C6 lw_gcU hxt, tr_V6⟩)
theorem tf_C (hxt : tk_xtok xt) : lw_sem l D xt gc_TY (gc_X lw_twC) ads lw_twC 4 176 [0, 0] [gn_i, gn_i] (tr_Q tf_w) := tr_semC (Y := fun b => match b with
  | 1 => tf_Y1
  | 2 => tf_Y2
  | 3 => tf_Y3
  | 4 => tf_Y4
  | 5 => tf_Y5
  | _ => tf_Y6) (fun I1 I2 h => by
    rcases List.mem_cons.mp h with h | h
    · injection h with a b; rw [a, b]; exact tf_N0 lw_gcU hxt
    rcases List.mem_cons.mp h with h | h
    · injection h with a b; rw [a, b]; exact tf_N1 lw_gcU hxt
    rcases List.mem_cons.mp h with h | h
    · injection h with a b; rw [a, b]; exact tf_N2 lw_gcU hxt
    rcases List.mem_cons.mp h with h | h
    · injection h with a b; rw [a, b]; exact tf_N3 lw_gcU hxt
    exact absurd h List.not_mem_nil) (fun b h1 h2 => by
    rcases (by omega : b = 1 ∨ b = 2 ∨ b = 3 ∨ b = 4 ∨ b = 5 ∨ b = 6) with rfl | rfl | rfl | rfl | rfl | rfl
    · exact ⟨tf_C1 lw_gcU hxt, tf_V1⟩
    · exact ⟨tf_C2 lw_gcU hxt, tf_V2⟩
    · exact ⟨tf_C3 lw_gcU hxt, tf_V3⟩
    · exact ⟨tf_C4 lw_gcU hxt, tf_V4⟩
    · exact ⟨tf_C5 lw_gcU hxt, tf_V5⟩
    · exact ⟨tf_C6 lw_gcU hxt, tf_V6⟩)
end TRC
section FTP
variable {g : Nat → Int32} {tp bt : Int64} {a0 a : Nat → Nat → Int32} {b : Nat → Nat → Int64}

theorem fr_isTrial2 {x y : Int32} : ∃ (v : Option Value) (mem' : fx_M), (fun R => ∃ z : Int32, (z = 0 ∧ ¬ tr_ok x y ∨ z = 1 ∧ ∃ N B : Nat, N ≤ 60 ∧ 1 ≤ B ∧ B ≤ 6 ∧ x = nI N ∧ y = nI B) ∧ R = (some (.int z), fm g tp bt a b)) (v, mem') ∧ fr_T 2 346 [.int x, .int y] (fm g tp bt a b) v mem' := by
  refine fe_meth (F := fun R => ∃ z : Int32, (z = 0 ∧ ¬ tr_ok x y ∨ z = 1 ∧ ∃ N B : Nat, N ≤ 60 ∧ 1 ≤ B ∧ B ≤ 6 ∧ x = nI N ∧ y = nI B) ∧ R = (some (.int z), fm g tp bt a b)) (M := gk_m346) (by rfl) (by rfl) ?_
  refine fe_s 4 (pc' := 6) (lc' := [(0, .int x), (1, .int y)]) (stk' := [.long 60, .long (0 : Int64), .long (x.toInt64)]) (mem' := fm g tp bt a b) (fun _ _ _ => rfl) ?_
  obtain ⟨vf101, memf101, ⟨xf101, hxf101, hRf101⟩, hfrf101⟩ := fr_isFrom (v := x.toInt64) (l := (0 : Int64)) (m := 60) (mem := fm g tp bt a b)
  cases hRf101
  refine fe_ivS hfrf101 (by omega) (by rfl) (by rfl) (by rfl) (by rfl) (by rfl) ?_
  rcases hxf101 with ⟨rfl, hng1⟩ | ⟨rfl, hlf101, hmf101⟩
  · refine fe_s 1 (pc' := cond (fx_cb .eq 0 0) 28 12) (lc' := [(0, .int x), (1, .int y)]) (stk' := []) (mem' := fm g tp bt a b) (fun _ _ _ => rfl) ?_
    rw [show (fx_cb .eq 0 0) = true from by decide]
    dsimp only [cond]
    refine fe_s 1 (pc' := 29) (lc' := [(0, .int x), (1, .int y)]) (stk' := [.int 0]) (mem' := fm g tp bt a b) (fun _ _ _ => rfl) ?_
    exact fe_ret ⟨_, Or.inl ⟨rfl, (fun h => hng1 (by rw [Int32.toInt_toInt64, show ((0 : Int64).toInt) = 0 from rfl, show ((60 : Int64).toInt) = 60 from rfl]; exact ⟨h.1, h.2.1⟩))⟩, rfl⟩ (by rfl) (by rfl) (by rfl)
  · obtain ⟨N, hN, rfl⟩ : ∃ qq, qq ≤ 60 ∧ x = nI qq := by
      rw [Int32.toInt_toInt64] at hlf101 hmf101
      rw [show (((60 : Int64)).toInt) = 60 from rfl] at hmf101
      rw [show (((0 : Int64)).toInt) = 0 from rfl] at hlf101
      exact nI_bd (n := 60) (by omega) hmf101
    refine fe_s 1 (pc' := cond (fx_cb .eq 1 0) 28 12) (lc' := [(0, .int (nI N)), (1, .int y)]) (stk' := []) (mem' := fm g tp bt a b) (fun _ _ _ => rfl) ?_
    rw [show (fx_cb .eq 1 0) = false from by decide]
    dsimp only [cond]
    refine fe_s 4 (pc' := 18) (lc' := [(0, .int (nI N)), (1, .int y)]) (stk' := [.long 6, .long (1 : Int64), .long (y.toInt64)]) (mem' := fm g tp bt a b) (fun _ _ _ => rfl) ?_
    obtain ⟨vf102, memf102, ⟨xf102, hxf102, hRf102⟩, hfrf102⟩ := fr_isFrom (v := y.toInt64) (l := (1 : Int64)) (m := 6) (mem := fm g tp bt a b)
    cases hRf102
    refine fe_ivS hfrf102 (by omega) (by rfl) (by rfl) (by rfl) (by rfl) (by rfl) ?_
    rcases hxf102 with ⟨rfl, hng2⟩ | ⟨rfl, hlf102, hmf102⟩
    · refine fe_s 1 (pc' := cond (fx_cb .eq 0 0) 28 24) (lc' := [(0, .int (nI N)), (1, .int y)]) (stk' := []) (mem' := fm g tp bt a b) (fun _ _ _ => rfl) ?_
      rw [show (fx_cb .eq 0 0) = true from by decide]
      dsimp only [cond]
      refine fe_s 1 (pc' := 29) (lc' := [(0, .int (nI N)), (1, .int y)]) (stk' := [.int 0]) (mem' := fm g tp bt a b) (fun _ _ _ => rfl) ?_
      exact fe_ret ⟨_, Or.inl ⟨rfl, (fun h => hng2 (by rw [Int32.toInt_toInt64, show ((1 : Int64).toInt) = 1 from rfl, show ((6 : Int64).toInt) = 6 from rfl]; exact ⟨h.2.2.1, h.2.2.2⟩))⟩, rfl⟩ (by rfl) (by rfl) (by rfl)
    · obtain ⟨B, hB, rfl⟩ : ∃ qq, qq ≤ 6 ∧ y = nI qq := by
        rw [Int32.toInt_toInt64] at hlf102 hmf102
        rw [show (((6 : Int64)).toInt) = 6 from rfl] at hmf102
        rw [show (((1 : Int64)).toInt) = 1 from rfl] at hlf102
        exact nI_bd (n := 6) (by omega) hmf102
      have h1B : 1 ≤ B := by
        rw [Int32.toInt_toInt64, nI_i32 (by omega), show (((1 : Int64)).toInt) = 1 from rfl] at hlf102; omega
      refine fe_s 1 (pc' := cond (fx_cb .eq 1 0) 28 24) (lc' := [(0, .int (nI N)), (1, .int (nI B))]) (stk' := []) (mem' := fm g tp bt a b) (fun _ _ _ => rfl) ?_
      rw [show (fx_cb .eq 1 0) = false from by decide]
      dsimp only [cond]
      refine fe_s 2 (pc' := 29) (lc' := [(0, .int (nI N)), (1, .int (nI B))]) (stk' := [.int 1]) (mem' := fm g tp bt a b) (fun _ _ _ => rfl) ?_
      exact fe_ret ⟨_, Or.inr ⟨rfl, N, B, by omega, by omega, by omega, rfl, rfl⟩, rfl⟩ (by rfl) (by rfl) (by rfl)

/-- what trials and tryFirst leave behind, exactly -/
def tr_PX (V : Nat → Nat → Int) (x y : Int32) (g : Nat → Int32) (tp bt : Int64) (a : Nat → Nat → Int32) (b : Nat → Nat → Int64) (R : Option Value × fx_M) : Prop := ∃ (v : Int32) (g' : Nat → Int32) (a' : Nat → Nat → Int32), fm_S15 a a' ∧ (∀ i, i < 427 → 0 ≤ (a' 15 i).toInt ∧ (a' 15 i).toInt ≤ 1000000) ∧ fm_G g g' ∧ (¬ tr_ok x y ∧ v.toInt = -1 ∨ ∃ m k : Nat, m ≤ 60 ∧ 1 ≤ k ∧ k ≤ 6 ∧ x = nI m ∧ y = nI k ∧ v.toInt = V k m) ∧ R = (some (.int v), fm g' tp bt a' b)
theorem fr_trials {n b2 : Int32} (hBa : fm_B a) (hgb : fm_gb g) (h15 : ∀ i, i < 427 → 0 ≤ (a 15 i).toInt ∧ (a 15 i).toInt ≤ 1000000) : ∃ (v : Option Value) (mem' : fx_M), (tr_PX tr_v n b2 g tp bt a b) (v, mem') ∧ fr_T 3 347 [.ref 0, .int n, .int b2] (fm g tp bt a b) v mem' := by
  have hG := fm_G_rf hgb
  refine fe_meth (F := tr_PX tr_v n b2 g tp bt a b) (M := gk_m347) (by rfl) (by rfl) ?_
  refine fe_s 2 (pc' := 2) (lc' := [(0, .ref 0), (1, .int n), (2, .int b2)]) (stk' := [.int b2, .int n]) (mem' := fm g tp bt a b) (fun _ _ _ => rfl) ?_
  obtain ⟨vz1, memz1, ⟨xz1, hxz1, hRz1⟩, hfrz1⟩ := fr_isTrial2 (x := n) (y := b2) (g := g) (tp := tp) (bt := bt) (a := a) (b := b)
  cases hRz1
  refine fe_ivS hfrz1 (by omega) (by rfl) (by rfl) (by rfl) (by rfl) (by rfl) ?_
  rcases hxz1 with ⟨rfl, hno⟩ | ⟨rfl, N, B, hN, hB1, hB, rfl, rfl⟩
  · refine fe_s 1 (pc' := cond (fx_cb .eq 0 0) 21 8) (lc' := [(0, .ref 0), (1, .int n), (2, .int b2)]) (stk' := []) (mem' := fm g tp bt a b) (fun _ _ _ => rfl) ?_
    rw [show (fx_cb .eq 0 0) = true from by decide]
    dsimp only [cond]
    refine fe_s 2 (pc' := 23) (lc' := [(0, .ref 0), (1, .int n), (2, .int b2)]) (stk' := [.int 1, .ref 0]) (mem' := fm g tp bt a b) (fun _ _ _ => rfl) ?_
    refine fe_ivV (fr_refuse (x := 1)) (by omega) (by rfl) (by rfl) (by rfl) (by rfl) (by rfl) (by rfl) ?_
    exact fe_ret ⟨-1, _, _, fun _ _ => rfl, h15, (fm_G_2 hG (by decide) (by decide)), Or.inl ⟨hno, by decide⟩, rfl⟩ (by rfl) (by rfl) (by rfl)
  · refine fe_s 1 (pc' := cond (fx_cb .eq 1 0) 21 8) (lc' := [(0, .ref 0), (1, .int (nI N)), (2, .int (nI B))]) (stk' := []) (mem' := fm g tp bt a b) (fun _ _ _ => rfl) ?_
    rw [show (fx_cb .eq 1 0) = false from by decide]
    dsimp only [cond]
    refine fe_s 4 (pc' := 12) (lc' := [(0, .ref 0), (1, .int (nI N)), (2, .int (nI B))]) (stk' := [.int (nI B), .int (nI N), .ref 0, .ref 0]) (mem' := fm g tp bt a b) (fun _ _ _ => rfl) ?_
    obtain ⟨vT, memT, ⟨aT, hST, hTT, hRT⟩, hfrT⟩ := fr_trialsOf (n := N) (B := B) (g := g) (tp := tp) (bt := bt) (a := a) (b := b) hN hB h15
    cases hRT
    refine fe_ivV hfrT (by omega) (by rfl) (by rfl) (by rfl) (by rfl) (by rfl) (by rfl) ?_
    refine fe_ivV (fr_gives (x := nI (fm_tr B N))) (by omega) (by rfl) (by rfl) (by rfl) (by rfl) (by rfl) (by rfl) ?_
    refine fe_s 1 (pc' := 26) (lc' := [(0, .ref 0), (1, .int (nI N)), (2, .int (nI B))]) (stk' := [.int (nI (fm_tr B N))]) (mem' := fm (upd g 2 0) tp bt aT b) (fun _ _ _ => rfl) ?_
    exact fe_ret ⟨nI (fm_tr B N), _, _, hST, hTT.2, (fm_G_2 hG (by decide) (by decide)), Or.inr ⟨N, B, hN, hB1, hB, rfl, rfl, by rw [nI_i32 (by have := fm_tr_le B N; omega), tr_tg B (by omega) N (by omega)]; rfl⟩, rfl⟩ (by rfl) (by rfl) (by rfl)
theorem tf_end {N k x : Nat} (hN : N ≤ 60) (hk : k < 6) (h0 : 0 < N) (h1 : 1 ≤ x) (hx : x ≤ N) (he : nI (1 + max (fm_tr k (x - 1)) (fm_tr (k + 1) (N - x))) = nI (fm_tr (k + 1) N)) (hlow : ∀ y, 1 ≤ y → y < x → ¬ nI (1 + max (fm_tr k (y - 1)) (fm_tr (k + 1) (N - y))) = nI (fm_tr (k + 1) N)) : (x : Int) = tf_w (k + 1) N := by
  have big : ∀ y, 1 + max (fm_tr k (y - 1)) (fm_tr (k + 1) (N - y)) < 2147483648 := fun y => by
    have := fm_tr_le k (y - 1)
    have := fm_tr_le (k + 1) (N - y)
    omega
  have b0 : fm_tr (k + 1) N < 2147483648 := by have := fm_tr_le (k + 1) N; omega
  have conv : ∀ y, 1 ≤ y → y ≤ N → (tf_is (k + 1) N y = true ↔ nI (1 + max (fm_tr k (y - 1)) (fm_tr (k + 1) (N - y))) = nI (fm_tr (k + 1) N)) := by
    intro y hy1 hy2
    unfold tf_is
    rw [tr_tg k (by omega) (y - 1) (by omega), tr_tg (k + 1) (by omega) (N - y) (by omega), tr_tg (k + 1) (by omega) N (by omega), show k + 1 - 1 = k by omega, Bool.and_eq_true, Nat.beq_eq, Nat.ble_eq]
    refine ⟨fun h => congrArg nI h.2, fun h => ⟨hy1, ?_⟩⟩
    have := congrArg Int32.toInt h
    have bb := big y
    rw [tr_tg k (by omega) (y - 1) (by omega), tr_tg (k + 1) (by omega) (N - y) (by omega)] at bb
    rw [tr_tg (k + 1) (by omega) N (by omega)] at b0
    rw [nI_i32 bb, nI_i32 b0] at this
    omega
  have e : tf_v (k + 1) N = x := tf_v_of (by omega) ((conv x h1 hx).mpr he) (fun y hy => by
    by_cases hy1 : 1 ≤ y
    · cases hq : tf_is (k + 1) N y with
      | false => rfl
      | true => exact absurd ((conv y hy1 (by omega)).mp hq) (hlow y hy1 hy)
    · unfold tf_is
      rw [show Nat.ble 1 y = false from by rw [show y = 0 by omega]; rfl]
      rfl)
  unfold tf_w
  rw [if_neg (by omega), e]
theorem fr_tryFirst2 {n b2 : Int32} (hBa : fm_B a) (hgb : fm_gb g) (h15 : ∀ i, i < 427 → 0 ≤ (a 15 i).toInt ∧ (a 15 i).toInt ≤ 1000000) : ∃ (v : Option Value) (mem' : fx_M), (tr_PX tf_w n b2 g tp bt a b) (v, mem') ∧ fr_T 3 348 [.ref 0, .int n, .int b2] (fm g tp bt a b) v mem' := by
  have hG := fm_G_rf hgb
  refine fe_meth (F := tr_PX tf_w n b2 g tp bt a b) (M := gk_m348) (by rfl) (by rfl) ?_
  refine fe_s 2 (pc' := 2) (lc' := [(0, .ref 0), (1, .int n), (2, .int b2)]) (stk' := [.int b2, .int n]) (mem' := fm g tp bt a b) (fun _ _ _ => rfl) ?_
  obtain ⟨vz1, memz1, ⟨xz1, hxz1, hRz1⟩, hfrz1⟩ := fr_isTrial2 (x := n) (y := b2) (g := g) (tp := tp) (bt := bt) (a := a) (b := b)
  cases hRz1
  refine fe_ivS hfrz1 (by omega) (by rfl) (by rfl) (by rfl) (by rfl) (by rfl) ?_
  rcases hxz1 with ⟨rfl, hno⟩ | ⟨rfl, N, B, hN, hB1, hB, rfl, rfl⟩
  · refine fe_s 1 (pc' := cond (fx_cb .ne 0 0) 14 8) (lc' := [(0, .ref 0), (1, .int n), (2, .int b2)]) (stk' := []) (mem' := fm g tp bt a b) (fun _ _ _ => rfl) ?_
    rw [show (fx_cb .ne 0 0) = false from by decide]
    dsimp only [cond]
    refine fe_s 2 (pc' := 10) (lc' := [(0, .ref 0), (1, .int n), (2, .int b2)]) (stk' := [.int 1, .ref 0]) (mem' := fm g tp bt a b) (fun _ _ _ => rfl) ?_
    refine fe_ivV (fr_refuse (x := 1)) (by omega) (by rfl) (by rfl) (by rfl) (by rfl) (by rfl) (by rfl) ?_
    exact fe_ret ⟨-1, _, _, fun _ _ => rfl, h15, (fm_G_2 hG (by decide) (by decide)), Or.inl ⟨hno, by decide⟩, rfl⟩ (by rfl) (by rfl) (by rfl)
  · refine fe_s 1 (pc' := cond (fx_cb .ne 1 0) 14 8) (lc' := [(0, .ref 0), (1, .int (nI N)), (2, .int (nI B))]) (stk' := []) (mem' := fm g tp bt a b) (fun _ _ _ => rfl) ?_
    rw [show (fx_cb .ne 1 0) = true from by decide]
    dsimp only [cond]
    refine fe_s 1 (pc' := 15) (lc' := [(0, .ref 0), (1, .int (nI N)), (2, .int (nI B))]) (stk' := [.int (nI N)]) (mem' := fm g tp bt a b) (fun _ _ _ => rfl) ?_
    refine fe_s 1 (pc' := cond (fx_cb .ne (nI N) 0) 25 18) (lc' := [(0, .ref 0), (1, .int (nI N)), (2, .int (nI B))]) (stk' := []) (mem' := fm g tp bt a b) (fun _ _ _ => rfl) ?_
    by_cases h2 : N = 0
    · rw [show (fx_cb .ne (nI N) 0) = false from cb_neF (a := N) (b := 0) (by omega) (by omega) (by omega)]
      dsimp only [cond]
      refine fe_s 2 (pc' := 21) (lc' := [(0, .ref 0), (1, .int (nI N)), (2, .int (nI B))]) (stk' := [.int 6, .ref 0]) (mem' := fm g tp bt a b) (fun _ _ _ => rfl) ?_
      refine fe_ivV (fr_refuse (x := 6)) (by omega) (by rfl) (by rfl) (by rfl) (by rfl) (by rfl) (by rfl) ?_
      exact fe_ret ⟨-1, _, _, fun _ _ => rfl, h15, (fm_G_2 hG (by decide) (by decide)), Or.inr ⟨N, B, hN, hB1, hB, rfl, rfl, by rw [h2]; show (-1 : Int32).toInt = if (0 : Nat) = 0 then -1 else _; rw [if_pos rfl]; rfl⟩, rfl⟩ (by rfl) (by rfl) (by rfl)
    · rw [show (fx_cb .ne (nI N) 0) = true from cb_neT (a := N) (b := 0) (by omega) (by omega) (by omega)]
      dsimp only [cond]
      refine fe_s 3 (pc' := 28) (lc' := [(0, .ref 0), (1, .int (nI N)), (2, .int (nI B))]) (stk' := [.int (nI B), .int (nI N), .ref 0]) (mem' := fm g tp bt a b) (fun _ _ _ => rfl) ?_
      obtain ⟨vT, memT, ⟨aT, hST, hTT, hRT⟩, hfrT⟩ := fr_trialsOf (n := N) (B := B) (g := g) (tp := tp) (bt := bt) (a := a) (b := b) hN hB h15
      cases hRT
      refine fe_ivV hfrT (by omega) (by rfl) (by rfl) (by rfl) (by rfl) (by rfl) (by rfl) ?_
      refine fe_s 3 (pc' := 35) (lc' := [(4, .int 1), (3, .int (nI (fm_tr B N))), (0, .ref 0), (1, .int (nI N)), (2, .int (nI B))]) (stk' := []) (mem' := fm g tp bt aT b) (fun _ _ _ => rfl) ?_
      obtain ⟨k, rfl⟩ : ∃ k, B = k + 1 := ⟨B - 1, by omega⟩
      obtain ⟨X, hX1, hXN, eX⟩ := fm_tr_at k (m := N) (by omega) hN
      have loop : ∀ (r x : Nat), x + r = X → 1 ≤ x → (∀ y, 1 ≤ y → y < x → ¬ nI (1 + max (fm_tr k (y - 1)) (fm_tr (k + 1) (N - y))) = nI (fm_tr (k + 1) N)) → fe_R 2 gk_m348 35 [(4, .int (nI x)), (3, .int (nI (fm_tr (k + 1) N))), (0, .ref 0), (1, .int (nI N)), (2, .int (nI (k + 1)))] [] (fm g tp bt aT b) (tr_PX tf_w (nI N) (nI (k + 1)) g tp bt a b) := by
        intro r
        induction r with
        | zero =>
          intro x hx h1x hlow
          have hxX : x = X := by omega
          refine fe_s 4 (pc' := 40) (lc' := [(4, .int (nI x)), (3, .int (nI (fm_tr (k + 1) N))), (0, .ref 0), (1, .int (nI N)), (2, .int (nI (k + 1)))]) (stk' := [.int (nI x), .int (nI (k + 1)), .int (nI N), .ref 0]) (mem' := fm g tp bt aT b) (fun _ _ _ => rfl) ?_
          have cw3 := fr_triedAt (g := g) (tp := tp) (bt := bt) (b := b) (n := N) (k := k) (m := N) (x := x) (a := aT) (hTT.1 k (x - 1) (by omega) (Or.inl (by omega))) (hTT.1 (k + 1) (N - x) (by omega) (Or.inl (by omega))) (by omega) (by omega) (by omega) (by omega)
          refine fe_ivV cw3 (by omega) (by rfl) (by rfl) (by rfl) (by rfl) (by rfl) (by rfl) ?_
          refine fe_s 1 (pc' := 44) (lc' := [(4, .int (nI x)), (3, .int (nI (fm_tr (k + 1) N))), (0, .ref 0), (1, .int (nI N)), (2, .int (nI (k + 1)))]) (stk' := [.int (nI (fm_tr (k + 1) N)), .int (nI (1 + max (fm_tr k (x - 1)) (fm_tr (k + 1) (N - x))))]) (mem' := fm g tp bt aT b) (fun _ _ _ => rfl) ?_
          refine fe_s 1 (pc' := cond (fx_cb .eq (nI (1 + max (fm_tr k (x - 1)) (fm_tr (k + 1) (N - x)))) (nI (fm_tr (k + 1) N))) 53 47) (lc' := [(4, .int (nI x)), (3, .int (nI (fm_tr (k + 1) N))), (0, .ref 0), (1, .int (nI N)), (2, .int (nI (k + 1)))]) (stk' := []) (mem' := fm g tp bt aT b) (fun _ _ _ => rfl) ?_
          cases h4 : fx_cb .eq (nI (1 + max (fm_tr k (x - 1)) (fm_tr (k + 1) (N - x)))) (nI (fm_tr (k + 1) N))
          · refine fe_s 2 (pc' := 35) (lc' := [(4, .int ((nI x) + 1)), (3, .int (nI (fm_tr (k + 1) N))), (0, .ref 0), (1, .int (nI N)), (2, .int (nI (k + 1)))]) (stk' := []) (mem' := fm g tp bt aT b) (fun _ _ _ => rfl) ?_
            rw [show ((nI x) + 1 : Int32) = nI (x + 1) from by simp only [show (1 : Int32) = nI 1 from rfl, nI_add, fm_mul]]
            exfalso; rw [hxX, ← eX, show fx_cb .eq (nI (fm_tr (k + 1) N)) (nI (fm_tr (k + 1) N)) = true from decide_eq_true rfl] at h4; cases h4
          · refine fe_s 2 (pc' := 56) (lc' := [(4, .int (nI x)), (3, .int (nI (fm_tr (k + 1) N))), (0, .ref 0), (1, .int (nI N)), (2, .int (nI (k + 1)))]) (stk' := [.int (nI x), .ref 0]) (mem' := fm g tp bt aT b) (fun _ _ _ => rfl) ?_
            refine fe_ivV (fr_gives (x := nI x)) (by omega) (by rfl) (by rfl) (by rfl) (by rfl) (by rfl) (by rfl) ?_
            exact fe_ret ⟨nI x, _, _, hST, hTT.2, (fm_G_2 hG (by decide) (by decide)), Or.inr ⟨N, k + 1, hN, hB1, hB, rfl, rfl, by rw [nI_i32 (by omega)]; exact tf_end hN (by omega) (by omega) h1x (by omega) (of_decide_eq_true h4) hlow⟩, rfl⟩ (by rfl) (by rfl) (by rfl)
        | succ r ih =>
          intro x hx h1x hlow
          refine fe_s 4 (pc' := 40) (lc' := [(4, .int (nI x)), (3, .int (nI (fm_tr (k + 1) N))), (0, .ref 0), (1, .int (nI N)), (2, .int (nI (k + 1)))]) (stk' := [.int (nI x), .int (nI (k + 1)), .int (nI N), .ref 0]) (mem' := fm g tp bt aT b) (fun _ _ _ => rfl) ?_
          have cw5 := fr_triedAt (g := g) (tp := tp) (bt := bt) (b := b) (n := N) (k := k) (m := N) (x := x) (a := aT) (hTT.1 k (x - 1) (by omega) (Or.inl (by omega))) (hTT.1 (k + 1) (N - x) (by omega) (Or.inl (by omega))) (by omega) (by omega) (by omega) (by omega)
          refine fe_ivV cw5 (by omega) (by rfl) (by rfl) (by rfl) (by rfl) (by rfl) (by rfl) ?_
          refine fe_s 1 (pc' := 44) (lc' := [(4, .int (nI x)), (3, .int (nI (fm_tr (k + 1) N))), (0, .ref 0), (1, .int (nI N)), (2, .int (nI (k + 1)))]) (stk' := [.int (nI (fm_tr (k + 1) N)), .int (nI (1 + max (fm_tr k (x - 1)) (fm_tr (k + 1) (N - x))))]) (mem' := fm g tp bt aT b) (fun _ _ _ => rfl) ?_
          refine fe_s 1 (pc' := cond (fx_cb .eq (nI (1 + max (fm_tr k (x - 1)) (fm_tr (k + 1) (N - x)))) (nI (fm_tr (k + 1) N))) 53 47) (lc' := [(4, .int (nI x)), (3, .int (nI (fm_tr (k + 1) N))), (0, .ref 0), (1, .int (nI N)), (2, .int (nI (k + 1)))]) (stk' := []) (mem' := fm g tp bt aT b) (fun _ _ _ => rfl) ?_
          cases h6 : fx_cb .eq (nI (1 + max (fm_tr k (x - 1)) (fm_tr (k + 1) (N - x)))) (nI (fm_tr (k + 1) N))
          · refine fe_s 2 (pc' := 35) (lc' := [(4, .int ((nI x) + 1)), (3, .int (nI (fm_tr (k + 1) N))), (0, .ref 0), (1, .int (nI N)), (2, .int (nI (k + 1)))]) (stk' := []) (mem' := fm g tp bt aT b) (fun _ _ _ => rfl) ?_
            rw [show ((nI x) + 1 : Int32) = nI (x + 1) from by simp only [show (1 : Int32) = nI 1 from rfl, nI_add, fm_mul]]
            refine fe_w (lc' := [(4, .int (nI (x + 1))), (3, .int (nI (fm_tr (k + 1) N))), (0, .ref 0), (1, .int (nI N)), (2, .int (nI (k + 1)))]) ⟨rfl, rfl, rfl, rfl, rfl, trivial⟩ (by show List.Nodup [4, 3, 0, 1, 2]; decide) (by show List.Nodup [4, 3, 0, 1, 2]; decide) ?_
            exact ih (x + 1) (by omega) (by omega) (fun y hy1 hy2 => by
              by_cases hyx : y = x
              · subst hyx; exact of_decide_eq_false h6
              · exact hlow y hy1 (by omega))
          · refine fe_s 2 (pc' := 56) (lc' := [(4, .int (nI x)), (3, .int (nI (fm_tr (k + 1) N))), (0, .ref 0), (1, .int (nI N)), (2, .int (nI (k + 1)))]) (stk' := [.int (nI x), .ref 0]) (mem' := fm g tp bt aT b) (fun _ _ _ => rfl) ?_
            refine fe_ivV (fr_gives (x := nI x)) (by omega) (by rfl) (by rfl) (by rfl) (by rfl) (by rfl) (by rfl) ?_
            exact fe_ret ⟨nI x, _, _, hST, hTT.2, (fm_G_2 hG (by decide) (by decide)), Or.inr ⟨N, k + 1, hN, hB1, hB, rfl, rfl, by rw [nI_i32 (by omega)]; exact tf_end hN (by omega) (by omega) h1x (by omega) (of_decide_eq_true h6) hlow⟩, rfl⟩ (by rfl) (by rfl) (by rfl)
      refine fe_w (lc' := [(4, .int (nI 1)), (3, .int (nI (fm_tr (k + 1) N))), (0, .ref 0), (1, .int (nI N)), (2, .int (nI (k + 1)))]) ⟨rfl, rfl, rfl, rfl, rfl, trivial⟩ (by show List.Nodup [4, 3, 0, 1, 2]; decide) (by show List.Nodup [4, 3, 0, 1, 2]; decide) ?_
      exact loop (X - 1) 1 (by omega) (by omega) (fun y hy1 hy2 => absurd hy2 (by omega))

end FTP
theorem tr_PXI {V : Nat → Nat → Int} {x y : Int32} {g : Nat → Int32} {tp bt : Int64} {a : Nat → Nat → Int32} {b : Nat → Nat → Int64} {v : Option Value} {mem' : fx_M} (hI : fm_I g a) (h : tr_PX V x y g tp bt a b (v, mem')) : ∃ (z : Int32) (g' : Nat → Int32) (tp' bt' : Int64) (a' : Nat → Nat → Int32) (b' : Nat → Nat → Int64), v = some (.int z) ∧ mem' = fm g' tp' bt' a' b' ∧ fm_I g' a' ∧ fm_ffr gn_M0 g a b g' a' b' ∧ (¬ tr_ok x y ∧ z.toInt = -1 ∨ ∃ m k : Nat, m ≤ 60 ∧ 1 ≤ k ∧ k ≤ 6 ∧ x = nI m ∧ y = nI k ∧ z.toInt = V k m) := by
  obtain ⟨z, g', a', h1, h2, h3, h4, e⟩ := h
  have hv : v = some (.int z) := congrArg Prod.fst e
  have hm : mem' = fm g' tp bt a' b := congrArg Prod.snd e
  obtain ⟨v2, g2, tp2, bt2, a2, b2, e2, q1, q2⟩ := fm_I_PT (R := (v, mem')) hI ⟨z, g', a', h1, h2, h3, e⟩
  have hv2 : v = some (.int v2) := congrArg Prod.fst e2
  have hm2 : mem' = fm g2 tp2 bt2 a2 b2 := congrArg Prod.snd e2
  have : z = v2 := by rw [hv] at hv2; exact Value.int.inj (Option.some.inj hv2)
  subst this
  exact ⟨z, g2, tp2, bt2, a2, b2, hv, hm2, q1, q2, h4⟩
section TRM
variable {l : Launch} {D : va_G} {xt : tk_XT} {ads : List Nat}
theorem tr_M (hst : ∀ (Ad : Nat → Prop) (U : State) (H : Heap), xt Ad U H → ∃ pl v tx, sk_X pl v Ad U H ∧ vk_R "GooseIceModel" 189 tx pl U) : lw_sem l D xt gn_TY (gn_X lw_twM) ads lw_twM 7 347 [0, 0] [gn_i, gn_i] (tr_Q tr_v) := by
  refine lw_sem_imp (fm_sem (k := 3) (f := 347) (n := 2) hst gn_fmTy gn_M0_ms (Q := fun xs _ _ _ _ _ _ _ _ _ _ v => ∃ x y : Int32, xs = [x, y] ∧ (¬ tr_ok x y ∧ v.toInt = -1 ∨ ∃ m k : Nat, m ≤ 60 ∧ 1 ≤ k ∧ k ≤ 6 ∧ x = nI m ∧ y = nI k ∧ v.toInt = tr_v k m)) (fun g tp bt a b xs hx hI => ?_)) ?_
  · obtain ⟨x0, xs0, rfl, hx0⟩ := fm_xsS hx
    obtain ⟨x1, xs1, rfl, hx1⟩ := fm_xsS hx0
    obtain rfl := List.length_eq_zero_iff.mp hx1
    obtain ⟨v, mem', hP, hf⟩ := fr_trials (g := g) (tp := tp) (bt := bt) (a := a) (b := b) (n := x0) (b2 := x1) hI.2.1 (fm_I_gb hI) (fun i hi => hI.2.2 (15, 427, 0, 1000000) (by decide) i hi)
    obtain ⟨z, g', tp', bt', a', b', rfl, rfl, h1, h2, h3⟩ := tr_PXI hI hP
    exact ⟨z, g', tp', bt', a', b', hf, h1, h2, x0, x1, rfl, h3⟩
  · rintro av ws ws' v - ⟨xs, g, tp, bt, a, b, g', tp', bt', a', b', z, rfl, rfl, k1, k2, -, -, x, y, rfl, h⟩
    exact ⟨x, y, z, rfl, rfl, h⟩
theorem tf_M (hst : ∀ (Ad : Nat → Prop) (U : State) (H : Heap), xt Ad U H → ∃ pl v tx, sk_X pl v Ad U H ∧ vk_R "GooseIceModel" 189 tx pl U) : lw_sem l D xt gn_TY (gn_X lw_twM) ads lw_twM 7 348 [0, 0] [gn_i, gn_i] (tr_Q tf_w) := by
  refine lw_sem_imp (fm_sem (k := 3) (f := 348) (n := 2) hst gn_fmTy gn_M0_ms (Q := fun xs _ _ _ _ _ _ _ _ _ _ v => ∃ x y : Int32, xs = [x, y] ∧ (¬ tr_ok x y ∧ v.toInt = -1 ∨ ∃ m k : Nat, m ≤ 60 ∧ 1 ≤ k ∧ k ≤ 6 ∧ x = nI m ∧ y = nI k ∧ v.toInt = tf_w k m)) (fun g tp bt a b xs hx hI => ?_)) ?_
  · obtain ⟨x0, xs0, rfl, hx0⟩ := fm_xsS hx
    obtain ⟨x1, xs1, rfl, hx1⟩ := fm_xsS hx0
    obtain rfl := List.length_eq_zero_iff.mp hx1
    obtain ⟨v, mem', hP, hf⟩ := fr_tryFirst2 (g := g) (tp := tp) (bt := bt) (a := a) (b := b) (n := x0) (b2 := x1) hI.2.1 (fm_I_gb hI) (fun i hi => hI.2.2 (15, 427, 0, 1000000) (by decide) i hi)
    obtain ⟨z, g', tp', bt', a', b', rfl, rfl, h1, h2, h3⟩ := tr_PXI hI hP
    exact ⟨z, g', tp', bt', a', b', hf, h1, h2, x0, x1, rfl, h3⟩
  · rintro av ws ws' v - ⟨xs, g, tp, bt, a, b, g', tp', bt', a', b', z, rfl, rfl, k1, k2, -, -, x, y, rfl, h⟩
    exact ⟨x, y, z, rfl, rfl, h⟩
end TRM
