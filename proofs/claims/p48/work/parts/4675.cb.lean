/-! ===== fx: branches over numbers that are natural ===== -/
section FCB
variable {a b : Nat}
theorem cb_ltT (ha : a < 2147483648) (hb : b < 2147483648) (h : a < b) : fx_cb .lt (nI a) (nI b) = true := decide_eq_true ((nI_ltI (by omega) (by omega)).mpr h)
theorem cb_ltF (ha : a < 2147483648) (hb : b < 2147483648) (h : ¬ a < b) : fx_cb .lt (nI a) (nI b) = false := decide_eq_false (fun z => h ((nI_ltI (by omega) (by omega)).mp z))
theorem cb_geT (ha : a < 2147483648) (hb : b < 2147483648) (h : b ≤ a) : fx_cb .ge (nI a) (nI b) = true := decide_eq_true ((nI_leI (by omega) (by omega)).mpr h)
theorem cb_geF (ha : a < 2147483648) (hb : b < 2147483648) (h : ¬ b ≤ a) : fx_cb .ge (nI a) (nI b) = false := decide_eq_false (fun z => h ((nI_leI (by omega) (by omega)).mp z))
theorem cb_gtT (ha : a < 2147483648) (hb : b < 2147483648) (h : b < a) : fx_cb .gt (nI a) (nI b) = true := decide_eq_true ((nI_ltI (by omega) (by omega)).mpr h)
theorem cb_gtF (ha : a < 2147483648) (hb : b < 2147483648) (h : ¬ b < a) : fx_cb .gt (nI a) (nI b) = false := decide_eq_false (fun z => h ((nI_ltI (by omega) (by omega)).mp z))
theorem cb_leT (ha : a < 2147483648) (hb : b < 2147483648) (h : a ≤ b) : fx_cb .le (nI a) (nI b) = true := decide_eq_true ((nI_leI (by omega) (by omega)).mpr h)
theorem cb_leF (ha : a < 2147483648) (hb : b < 2147483648) (h : ¬ a ≤ b) : fx_cb .le (nI a) (nI b) = false := decide_eq_false (fun z => h ((nI_leI (by omega) (by omega)).mp z))
theorem cb_eqT (ha : a < 2147483648) (hb : b < 2147483648) (h : a = b) : fx_cb .eq (nI a) (nI b) = true := decide_eq_true ((nI_eq (by omega) (by omega)).mpr h)
theorem cb_eqF (ha : a < 2147483648) (hb : b < 2147483648) (h : ¬ a = b) : fx_cb .eq (nI a) (nI b) = false := decide_eq_false (fun z => h ((nI_eq (by omega) (by omega)).mp z))
theorem cb_neF (ha : a < 2147483648) (hb : b < 2147483648) (h : a = b) : fx_cb .ne (nI a) (nI b) = false := by
  show (!decide (nI a = nI b)) = false
  rw [decide_eq_true ((nI_eq (by omega) (by omega)).mpr h)]; rfl
theorem cb_neT (ha : a < 2147483648) (hb : b < 2147483648) (h : ¬ a = b) : fx_cb .ne (nI a) (nI b) = true := by
  show (!decide (nI a = nI b)) = true
  rw [decide_eq_false (fun z => h ((nI_eq (by omega) (by omega)).mp z))]; rfl
theorem cb_n_lt {y : Int32} (ha : a < 2147483648) (hy : y < 0) : fx_cb .lt (nI a) y = false := decide_eq_false (fun z => by
  have h1 := Int32.lt_iff_toInt_lt.mp z
  have h2 := Int32.lt_iff_toInt_lt.mp hy
  rw [nI_toInt (by omega)] at h1
  have h3 : (0 : Int32).toInt = 0 := rfl
  omega)
theorem cb_n_ge {y : Int32} (ha : a < 2147483648) (hy : y < 0) : fx_cb .ge (nI a) y = true := decide_eq_true (by
  have h2 := Int32.lt_iff_toInt_lt.mp hy
  refine Int32.le_iff_toInt_le.mpr ?_
  rw [nI_toInt (by omega)]
  have h3 : (0 : Int32).toInt = 0 := rfl
  omega)
theorem cb_n_gt {y : Int32} (ha : a < 2147483648) (hy : y < 0) : fx_cb .gt (nI a) y = true := decide_eq_true (by
  have h2 := Int32.lt_iff_toInt_lt.mp hy
  refine Int32.lt_iff_toInt_lt.mpr ?_
  rw [nI_toInt (by omega)]
  have h3 : (0 : Int32).toInt = 0 := rfl
  omega)
theorem cb_n_ne' {y : Int32} (ha : a < 2147483648) (hy : y < 0) : ¬ nI a = y := by
  rintro rfl
  exact absurd hy (nI_pos (by omega))
theorem cb_n_eq {y : Int32} (ha : a < 2147483648) (hy : y < 0) : fx_cb .eq (nI a) y = false := decide_eq_false (cb_n_ne' ha hy)
theorem cb_n_ne {y : Int32} (ha : a < 2147483648) (hy : y < 0) : fx_cb .ne (nI a) y = true := by
  show (!decide (nI a = y)) = true
  rw [decide_eq_false (cb_n_ne' ha hy)]; rfl
end FCB
