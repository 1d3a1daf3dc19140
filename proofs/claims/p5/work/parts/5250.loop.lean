/-! ===== the law: its loop ===== -/
theorem lw_d16 : decode code 16 = .ok (.iconst 0, 1) := by decide +kernel
theorem lw_d17 : decode code 17 = .ok (.istore_n 3, 1) := by decide +kernel
theorem lw_d18 : decode code 18 = .ok (.iload_n 3, 1) := by decide +kernel
theorem lw_d19 : decode code 19 = .ok (.aload_n 0, 1) := by decide +kernel
theorem lw_d20 : decode code 20 = .ok (.arraylength, 1) := by decide +kernel
theorem lw_d21 : decode code 21 = .ok (.bipush 6, 2) := by decide +kernel
theorem lw_d23 : decode code 23 = .ok (.isub, 1) := by decide +kernel
theorem lw_d24 : decode code 24 = .ok (.if_icmp .gt 2139, 3) := by decide +kernel
theorem lw_d27 : decode code 27 = .ok (.aload_n 0, 1) := by decide +kernel
theorem lw_d28 : decode code 28 = .ok (.iload_n 3, 1) := by decide +kernel
theorem lw_d29 : decode code 29 = .ok (.iaload, 1) := by decide +kernel
theorem lw_d30 : decode code 30 = .ok (.bipush 63, 2) := by decide +kernel
theorem lw_d32 : decode code 32 = .ok (.iand, 1) := by decide +kernel
theorem lw_d33 : decode code 33 = .ok (.tableswitch 2124 0 58 #[251, 264, 277, 290, 333, 406, 439, 502, 565, 588, 611, 634, 657, 690, 723, 756, 789, 822, 845, 888, 921, 944, 967, 990, 1013, 1036, 1059, 1092, 1151, 1184, 1217, 1250, 1293, 1326, 1359, 1402, 1425, 1458, 1491, 1514, 1527, 1550, 1583, 1626, 1659, 1672, 1695, 1718, 1751, 1784, 1817, 1840, 1903, 1966, 2019, 2042, 2065, 2098, 2111], 251) := by decide +kernel
theorem lw_d2157 : decode code 2157 = .ok (.iinc 3 6, 3) := by decide +kernel
theorem lw_d2160 : decode code 2160 = .ok (.goto (-2142), 3) := by decide +kernel
theorem lw_d2163 : decode code 2163 = .ok (.iconst 1, 1) := by decide +kernel
theorem lw_d2164 : decode code 2164 = .ok (.ireturn, 1) := by decide +kernel
def lv_tg : List Nat := [284, 297, 310, 323, 366, 439, 472, 535, 598, 621, 644, 667, 690, 723, 756, 789, 822, 855, 878, 921, 954, 977, 1000, 1023, 1046, 1069, 1092, 1125, 1184, 1217, 1250, 1283, 1326, 1359, 1392, 1435, 1458, 1491, 1524, 1547, 1560, 1583, 1616, 1659, 1692, 1705, 1728, 1751, 1784, 1817, 1850, 1873, 1936, 1999, 2052, 2075, 2098, 2131, 2144]
theorem lw_of33 {j : Nat} (hj : j < 59) : (#[251, 264, 277, 290, 333, 406, 439, 502, 565, 588, 611, 634, 657, 690, 723, 756, 789, 822, 845, 888, 921, 944, 967, 990, 1013, 1036, 1059, 1092, 1151, 1184, 1217, 1250, 1293, 1326, 1359, 1402, 1425, 1458, 1491, 1514, 1527, 1550, 1583, 1626, 1659, 1672, 1695, 1718, 1751, 1784, 1817, 1840, 1903, 1966, 2019, 2042, 2065, 2098, 2111] : Array Int)[j]? = some ((lv_tg.getD j 0 : Int) - 33) := of_decide_eq_true (List.all_eq_true.mp (show (List.range 59).all (fun j => decide ((#[251, 264, 277, 290, 333, 406, 439, 502, 565, 588, 611, 634, 657, 690, 723, 756, 789, 822, 845, 888, 921, 944, 967, 990, 1013, 1036, 1059, 1092, 1151, 1184, 1217, 1250, 1293, 1326, 1359, 1402, 1425, 1458, 1491, 1514, 1527, 1550, 1583, 1626, 1659, 1672, 1695, 1718, 1751, 1784, 1817, 1840, 1903, 1966, 2019, 2042, 2065, 2098, 2111] : Array Int)[j]? = some ((lv_tg.getD j 0 : Int) - 33))) = true from by decide +kernel) j (List.mem_range.mpr hj))
theorem lw_sub6 {L : Nat} (h : L ≤ 3072) : (Int32.ofNat L - 6).toInt = (L : Int) - 6 := by
  rw [Int32.toInt_sub, show (Int32.ofNat L).toInt = (L : Int) from nI_toInt (n := L) (by omega), show (6 : Int32).toInt = 6 from rfl]
  exact Int.bmod_eq_of_le (by omega) (by omega)
theorem lw_and63 (x : Int32) : ∃ j : Nat, j < 64 ∧ x &&& 63 = nI j := by
  have h := rk_s_and x 63 (-2147483648, 2147483647) (63, 63) (fm_i32 x).1 (fm_i32 x).2 (by decide) (by decide)
  have h : 0 ≤ (x &&& 63).toInt ∧ (x &&& 63).toInt ≤ 63 := h
  obtain ⟨j, hj, e⟩ := nI_bd (n := 63) h.1 h.2
  exact ⟨j, by omega, e⟩
theorem lq_B3_ok {xs : Nat → Int32} {i : Nat} {I1 I2 I3 : tk_I} (h1 : I1.1 ≤ (xs (i + 1)).toInt ∧ (xs (i + 1)).toInt ≤ I1.2) (h2 : I2.1 ≤ (xs (i + 2)).toInt ∧ (xs (i + 2)).toInt ≤ I2.2) (h3 : I3.1 ≤ (xs (i + 3)).toInt ∧ (xs (i + 3)).toInt ≤ I3.2) : ∀ k, (lq_B3 I1 I2 I3 k).1 ≤ (xs (i + k)).toInt ∧ (xs (i + k)).toInt ≤ (lq_B3 I1 I2 I3 k).2 := by
  intro k
  unfold lq_B3
  by_cases e1 : k = 1
  · subst e1; rw [if_pos rfl]; exact h1
  · rw [if_neg e1]
    by_cases e2 : k = 2
    · subst e2; rw [if_pos rfl]; exact h2
    · rw [if_neg e2]
      by_cases e3 : k = 3
      · subst e3; rw [if_pos rfl]; exact h3
      · rw [if_neg e3]; exact fm_i32 _
section LWL
variable {p : Program} {l : Launch} {e : Env} {s : State} {m : MethodId} {below : List Frame} {meth : Method} {c : Code} {D : va_G} {xt : tk_XT} {b ax am L nc ns : Nat} {xs : Nat → Int32} {adC adM : List Nat}
set_option maxHeartbeats 4000000 in
theorem lw_head (hst : ∀ (Ad : Nat → Prop) (U : State) (H : Heap), xt Ad U H → ∃ pl v tx, sk_X pl v Ad U H ∧ vk_R "GooseIceModel" 189 tx pl U) (hxt : tk_xtok xt) (hXt : xt (gk_A s) s s.heap) (hx : p.tables.exec = Jvm.exec) (hb : c.code = code) (hr : meth.sig.returnType = ret) (hml : c.maxLocals = 4) (hlocks : meth.locks = false) (hF : rk_Fr s m #[Value.ref b] meth D gk_cl (gk_A s) gk_tbl gk_xw gk_fty gk_cln "GooseIceLaw" gk_lk12 gk_lcs) (hX : va_X b L xs s s.heap) (hbl : b < s.heap.size) (hL : L ≤ 3072) (hdis : ∀ x ∈ adM, ¬ x ∈ adC) (haC : tk_ty adC lw_twC 0 ax) (haM : tk_ty adM lw_twM 0 am) (hnc : nc ≤ 600000) (hns : ns ≤ 7302250) {i : Nat} (hi : i ≤ 3078) (hcont : i + 6 ≤ L → lq_St (gk_K p l e s m below meth c b) s D (gk_A s) adC adM b ax am i xs nc ns 27 []) : lq_St (gk_K p l e s m below meth c b) s D (gk_A s) adC adM b ax am i xs nc ns 18 [] := by
  intro H locs ls stk hJ hl hS
  have hn := hS.nil
  subst hn
  have hS0 := hJ.2.2
  have hbA : ¬ gk_A s b := Nat.not_le.mpr hbl
  refine lv_iload_n hx hb lw_d18 rfl (lv_at hl 0 rfl) ?_
  refine lv_aload_n hx hb lw_d19 rfl (lv_at hl 3 rfl) ?_
  refine va_slen hx hb hX hbl hbA hS0 lw_d20 ?_
  refine lv_bipush (v := 6) hx hb lw_d21 (by decide) ?_
  refine lv_isub hx hb lw_d23 ?_
  refine lv_icmp_gt (tgt := 2163) hx hb lw_d24 (by decide) (fun _ => ?_) (fun h => ?_)
  · refine lv_iconst (v := 1) hx hb lw_d2163 (by decide) ?_
    refine va_forget (fun q hq => hS0.2.2 q hq) ?_
    refine W.widen (k := 600000) (n := 7302250) hnc hns ?_
    exact lw_ret hx hb hr hlocks lw_d2164
  · refine hcont ?_ H locs ls [] hJ hl trivial
    rw [Int32.lt_iff_toInt_lt, lw_sub6 hL, nI_i32 (by omega)] at h
    omega
set_option maxHeartbeats 4000000 in
theorem lw_27 (hst : ∀ (Ad : Nat → Prop) (U : State) (H : Heap), xt Ad U H → ∃ pl v tx, sk_X pl v Ad U H ∧ vk_R "GooseIceModel" 189 tx pl U) (hxt : tk_xtok xt) (hXt : xt (gk_A s) s s.heap) (hx : p.tables.exec = Jvm.exec) (hb : c.code = code) (hr : meth.sig.returnType = ret) (hml : c.maxLocals = 4) (hlocks : meth.locks = false) (hF : rk_Fr s m #[Value.ref b] meth D gk_cl (gk_A s) gk_tbl gk_xw gk_fty gk_cln "GooseIceLaw" gk_lk12 gk_lcs) (hX : va_X b L xs s s.heap) (hbl : b < s.heap.size) (hL : L ≤ 3072) (hdis : ∀ x ∈ adM, ¬ x ∈ adC) (haC : tk_ty adC lw_twC 0 ax) (haM : tk_ty adM lw_twM 0 am) (hnc : nc ≤ 600000) (hns : ns ≤ 7302250) {i : Nat} (hi : i + 6 ≤ L) (hstop : lq_St (gk_K p l e s m below meth c b) s D (gk_A s) adC adM b ax am i xs nc ns 2157 []) (hcase : ∀ j, j < 59 → lq_St (gk_K p l e s m below meth c b) s D (gk_A s) adC adM b ax am i xs nc ns (lv_tg.getD j 0) []) : lq_St (gk_K p l e s m below meth c b) s D (gk_A s) adC adM b ax am i xs nc ns 27 [] := by
  intro H locs ls stk hJ hl hS
  have hn := hS.nil
  subst hn
  have hS0 := hJ.2.2
  have hbA : ¬ gk_A s b := Nat.not_le.mpr hbl
  refine lv_aload_n hx hb lw_d27 rfl (lv_at hl 3 rfl) ?_
  refine lv_iload_n hx hb lw_d28 rfl (lv_at hl 0 rfl) ?_
  refine va_sld hx hb hX hbl hbA hS0 (vp_in_iff.mpr (by rw [nI_i32 (by omega)]; omega)) lw_d29 ?_
  refine lv_bipush (v := 63) hx hb lw_d30 (by decide) ?_
  refine lv_iand hx hb lw_d32 ?_
  obtain ⟨j, hj, ej⟩ := lw_and63 (xs (nI i).toNatClampNeg)
  rw [ej]
  have hjt : (nI j).toInt = (j : Int) := nI_i32 (by omega)
  by_cases h59 : j < 59
  · refine lv_tableIn (off := (lv_tg.getD j 0 : Int) - 33) (tgt := lv_tg.getD j 0) hx hb lw_d33 (by rw [hjt]; omega) (by rw [hjt]; omega) (by rw [hjt, show ((j : Int) - 0).toNat = j by omega]; exact lw_of33 h59) (by show (33 : Int) + _ = _; omega) ?_
    exact hcase j h59 H locs ls [] hJ hl trivial
  · refine lv_tableOut (tgt := 2157) hx hb lw_d33 (Or.inr (by rw [hjt]; omega)) (by decide) ?_
    exact hstop H locs ls [] hJ hl trivial
set_option maxHeartbeats 4000000 in
theorem lw_inc (hx : p.tables.exec = Jvm.exec) (hb : c.code = code) {i : Nat} (h18 : lq_St (gk_K p l e s m below meth c b) s D (gk_A s) adC adM b ax am (i + 6) xs nc ns 18 []) : lq_St (gk_K p l e s m below meth c b) s D (gk_A s) adC adM b ax am i xs nc ns 2157 [] := by
  intro H locs ls stk hJ hl hS
  have hn := hS.nil
  subst hn
  refine lv_iinc (k := 0) (v := nI (i + 6)) hx hb lw_d2157 hl rfl ?_ (by decide) (lv' := lw_lc b ax am (i + 6)) rfl (fun ls' hl' => ?_)
  · rw [show Int32.ofInt 6 = nI 6 from by decide]
    exact nI_add i 6
  · refine lv_goto (tgt := 18) hx hb lw_d2160 (by decide) ?_
    exact h18 H locs ls' [] hJ hl' trivial
set_option maxHeartbeats 8000000 in
theorem lw_cases (hst : ∀ (Ad : Nat → Prop) (U : State) (H : Heap), xt Ad U H → ∃ pl v tx, sk_X pl v Ad U H ∧ vk_R "GooseIceModel" 189 tx pl U) (hxt : tk_xtok xt) (hXt : xt (gk_A s) s s.heap) (hx : p.tables.exec = Jvm.exec) (hb : c.code = code) (hr : meth.sig.returnType = ret) (hml : c.maxLocals = 4) (hlocks : meth.locks = false) (hF : rk_Fr s m #[Value.ref b] meth D gk_cl (gk_A s) gk_tbl gk_xw gk_fty gk_cln "GooseIceLaw" gk_lk12 gk_lcs) (hX : va_X b L xs s s.heap) (hbl : b < s.heap.size) (hL : L ≤ 3072) (hdis : ∀ x ∈ adM, ¬ x ∈ adC) (haC : tk_ty adC lw_twC 0 ax) (haM : tk_ty adM lw_twM 0 am) (hnc : nc ≤ 600000) (hns : ns ≤ 7302250) {i : Nat} (hi : i + 6 ≤ L) (hstop : lq_St (gk_K p l e s m below meth c b) s D (gk_A s) adC adM b ax am i xs nc ns 2157 []) : ∀ j, j < 59 → lq_St (gk_K p l e s m below meth c b) s D (gk_A s) adC adM b ax am i xs nc ns (lv_tg.getD j 0) [] := by
  have hbA : ¬ gk_A s b := Nat.not_le.mpr hbl
  have run0 : ∀ {B : Nat → tk_I} {T : List lq_R} {li : List (Nat × Instr × Nat)} {pc : Nat}, (∀ k, (B k).1 ≤ (xs (i + k)).toInt ∧ (xs (i + k)).toInt ≤ (B k).2) → (∀ r ∈ T, lq_con l D xt adC adM r) → (∀ r ∈ li, decode code r.1 = .ok r.2) → lq_run B T li 2157 200 pc [] = true → lq_St (gk_K p l e s m below meth c b) s D (gk_A s) adC adM b ax am i xs nc ns pc [] := fun {B} {T} {li} {pc} hB hT hli h => lq_run_ok (R := room_1) (nc := nc) (ns := ns) hxt hXt hx hb hml hF (by decide) (by decide) hX hbl hbA (by omega) hi hdis haC haM hnc hns hB hT hli hstop 200 pc [] h
  have run : ∀ {T : List lq_R} {li : List (Nat × Instr × Nat)} {pc : Nat}, (∀ r ∈ T, lq_con l D xt adC adM r) → (∀ r ∈ li, decode code r.1 = .ok r.2) → lq_run lq_B0 T li 2157 200 pc [] = true → lq_St (gk_K p l e s m below meth c b) s D (gk_A s) adC adM b ax am i xs nc ns pc [] := fun hT hli h => run0 (fun k => fm_i32 _) hT hli h
  intro j hj
  match j, hj with
  | 0, _ => exact run (lv_T0_ok hst hxt) lv_ok0 lv_run0
  | 1, _ => exact run (lv_T1_ok hst hxt) lv_ok1 lv_run1
  | 2, _ => exact run (lv_T2_ok hst hxt) lv_ok2 lv_run2
  | 3, _ =>
    have a1 := fm_i32 (xs (i + 1))
    have a2 := fm_i32 (xs (i + 2))
    have a3 := fm_i32 (xs (i + 3))
    rcases (by omega : (0 ≤ (xs (i + 1)).toInt ∧ (xs (i + 1)).toInt ≤ 3 ∧ 0 ≤ (xs (i + 2)).toInt ∧ (xs (i + 2)).toInt ≤ 3 ∧ 0 ≤ (xs (i + 3)).toInt ∧ (xs (i + 3)).toInt ≤ 60) ∨ (xs (i + 1)).toInt ≤ -1 ∨ 4 ≤ (xs (i + 1)).toInt ∨ (0 ≤ (xs (i + 1)).toInt ∧ (xs (i + 1)).toInt ≤ 3 ∧ (xs (i + 2)).toInt ≤ -1) ∨ (0 ≤ (xs (i + 1)).toInt ∧ (xs (i + 1)).toInt ≤ 3 ∧ 4 ≤ (xs (i + 2)).toInt) ∨ (0 ≤ (xs (i + 1)).toInt ∧ (xs (i + 1)).toInt ≤ 3 ∧ 0 ≤ (xs (i + 2)).toInt ∧ (xs (i + 2)).toInt ≤ 3 ∧ (xs (i + 3)).toInt ≤ -1) ∨ (0 ≤ (xs (i + 1)).toInt ∧ (xs (i + 1)).toInt ≤ 3 ∧ 0 ≤ (xs (i + 2)).toInt ∧ (xs (i + 2)).toInt ≤ 3 ∧ 61 ≤ (xs (i + 3)).toInt)) with h | h | h | h | h | h | h
    · exact run0 (lq_B3_ok (by dsimp only; omega) (by dsimp only; omega) (by dsimp only; omega)) (lv_T3_0_ok hst hxt) lv_ok3 lv_run3_0
    · exact run0 (lq_B3_ok (by dsimp only; omega) (by dsimp only; omega) (by dsimp only; omega)) (lv_T3_1_ok hst hxt) lv_ok3 lv_run3_1
    · exact run0 (lq_B3_ok (by dsimp only; omega) (by dsimp only; omega) (by dsimp only; omega)) (lv_T3_2_ok hst hxt) lv_ok3 lv_run3_2
    · exact run0 (lq_B3_ok (by dsimp only; omega) (by dsimp only; omega) (by dsimp only; omega)) (lv_T3_3_ok hst hxt) lv_ok3 lv_run3_3
    · exact run0 (lq_B3_ok (by dsimp only; omega) (by dsimp only; omega) (by dsimp only; omega)) (lv_T3_4_ok hst hxt) lv_ok3 lv_run3_4
    · exact run0 (lq_B3_ok (by dsimp only; omega) (by dsimp only; omega) (by dsimp only; omega)) (lv_T3_5_ok hst hxt) lv_ok3 lv_run3_5
    · exact run0 (lq_B3_ok (by dsimp only; omega) (by dsimp only; omega) (by dsimp only; omega)) (lv_T3_6_ok hst hxt) lv_ok3 lv_run3_6
  | 4, _ => exact run (lv_T4_ok hst hxt) lv_ok4 lv_run4
  | 5, _ => exact run (lv_T5_ok hst hxt) lv_ok5 lv_run5
  | 6, _ => exact run (lv_T6_ok hst hxt) lv_ok6 lv_run6
  | 7, _ => exact run (lv_T7_ok hst hxt) lv_ok7 lv_run7
  | 8, _ => exact run (lv_T8_ok hst hxt) lv_ok8 lv_run8
  | 9, _ => exact run (lv_T9_ok hst hxt) lv_ok9 lv_run9
  | 10, _ => exact run (lv_T10_ok hst hxt) lv_ok10 lv_run10
  | 11, _ => exact run (lv_T11_ok hst hxt) lv_ok11 lv_run11
  | 12, _ => exact run (lv_T12_ok hst hxt) lv_ok12 lv_run12
  | 13, _ => exact run (lv_T13_ok hst hxt) lv_ok13 lv_run13
  | 14, _ => exact run (lv_T14_ok hst hxt) lv_ok14 lv_run14
  | 15, _ => exact run (lv_T15_ok hst hxt) lv_ok15 lv_run15
  | 16, _ => exact run (lv_T16_ok hst hxt) lv_ok16 lv_run16
  | 17, _ => exact run (lv_T17_ok hst hxt) lv_ok17 lv_run17
  | 18, _ => exact run (lv_T18_ok hst hxt) lv_ok18 lv_run18
  | 19, _ => exact run (lv_T19_ok hst hxt) lv_ok19 lv_run19
  | 20, _ => exact run (lv_T20_ok hst hxt) lv_ok20 lv_run20
  | 21, _ => exact run (lv_T21_ok hst hxt) lv_ok21 lv_run21
  | 22, _ => exact run (lv_T22_ok hst hxt) lv_ok22 lv_run22
  | 23, _ => exact run (lv_T23_ok hst hxt) lv_ok23 lv_run23
  | 24, _ => exact run (lv_T24_ok hst hxt) lv_ok24 lv_run24
  | 25, _ => exact run (lv_T25_ok hst hxt) lv_ok25 lv_run25
  | 26, _ => exact run (lv_T26_ok hst hxt) lv_ok26 lv_run26
  | 27, _ => exact run (lv_T27_ok hst hxt) lv_ok27 lv_run27
  | 28, _ => exact run (lv_T28_ok hst hxt) lv_ok28 lv_run28
  | 29, _ => exact run (lv_T29_ok hst hxt) lv_ok29 lv_run29
  | 30, _ => exact run (lv_T30_ok hst hxt) lv_ok30 lv_run30
  | 31, _ => exact run (lv_T31_ok hst hxt) lv_ok31 lv_run31
  | 32, _ => exact run (lv_T32_ok hst hxt) lv_ok32 lv_run32
  | 33, _ => exact run (lv_T33_ok hst hxt) lv_ok33 lv_run33
  | 34, _ => exact run (lv_T34_ok hst hxt) lv_ok34 lv_run34
  | 35, _ => exact run (lv_T35_ok hst hxt) lv_ok35 lv_run35
  | 36, _ => exact run (lv_T36_ok hst hxt) lv_ok36 lv_run36
  | 37, _ => exact run (lv_T37_ok hst hxt) lv_ok37 lv_run37
  | 38, _ => exact run (lv_T38_ok hst hxt) lv_ok38 lv_run38
  | 39, _ => exact run (lv_T39_ok hst hxt) lv_ok39 lv_run39
  | 40, _ => exact run (lv_T40_ok hst hxt) lv_ok40 lv_run40
  | 41, _ => exact run (lv_T41_ok hst hxt) lv_ok41 lv_run41
  | 42, _ => exact run (lv_T42_ok hst hxt) lv_ok42 lv_run42
  | 43, _ => exact run (lv_T43_ok hst hxt) lv_ok43 lv_run43
  | 44, _ => exact run (lv_T44_ok hst hxt) lv_ok44 lv_run44
  | 45, _ => exact run (lv_T45_ok hst hxt) lv_ok45 lv_run45
  | 46, _ => exact run (lv_T46_ok hst hxt) lv_ok46 lv_run46
  | 47, _ => exact run (lv_T47_ok hst hxt) lv_ok47 lv_run47
  | 48, _ => exact run (lv_T48_ok hst hxt) lv_ok48 lv_run48
  | 49, _ => exact run (lv_T49_ok hst hxt) lv_ok49 lv_run49
  | 50, _ => exact run (lv_T50_ok hst hxt) lv_ok50 lv_run50
  | 51, _ => exact run (lv_T51_ok hst hxt) lv_ok51 lv_run51
  | 52, _ => exact run (lv_T52_ok hst hxt) lv_ok52 lv_run52
  | 53, _ => exact run (lv_T53_ok hst hxt) lv_ok53 lv_run53
  | 54, _ => exact run (lv_T54_ok hst hxt) lv_ok54 lv_run54
  | 55, _ => exact run (lv_T55_ok hst hxt) lv_ok55 lv_run55
  | 56, _ => exact run (lv_T56_ok hst hxt) lv_ok56 lv_run56
  | 57, _ => exact run (lv_T57_ok hst hxt) lv_ok57 lv_run57
  | 58, _ => exact run (lv_T58_ok hst hxt) lv_ok58 lv_run58
  | n + 59, h => exact absurd h (by omega)
theorem lw_loop (hst : ∀ (Ad : Nat → Prop) (U : State) (H : Heap), xt Ad U H → ∃ pl v tx, sk_X pl v Ad U H ∧ vk_R "GooseIceModel" 189 tx pl U) (hxt : tk_xtok xt) (hXt : xt (gk_A s) s s.heap) (hx : p.tables.exec = Jvm.exec) (hb : c.code = code) (hr : meth.sig.returnType = ret) (hml : c.maxLocals = 4) (hlocks : meth.locks = false) (hF : rk_Fr s m #[Value.ref b] meth D gk_cl (gk_A s) gk_tbl gk_xw gk_fty gk_cln "GooseIceLaw" gk_lk12 gk_lcs) (hX : va_X b L xs s s.heap) (hbl : b < s.heap.size) (hL : L ≤ 3072) (hdis : ∀ x ∈ adM, ¬ x ∈ adC) (haC : tk_ty adC lw_twC 0 ax) (haM : tk_ty adM lw_twM 0 am) (hnc : nc ≤ 600000) (hns : ns ≤ 7302250) : ∀ (n i : Nat), L < i + 6 * n + 6 → i ≤ L + 6 → lq_St (gk_K p l e s m below meth c b) s D (gk_A s) adC adM b ax am i xs nc ns 18 [] := by
  intro n
  induction n with
  | zero =>
    intro i h1 h2
    exact lw_head hst hxt hXt hx hb hr hml hlocks hF hX hbl hL hdis haC haM hnc hns (by omega) (fun h => absurd h (by omega))
  | succ n ih =>
    intro i h1 h2
    refine lw_head hst hxt hXt hx hb hr hml hlocks hF hX hbl hL hdis haC haM hnc hns (by omega) (fun h => ?_)
    have hstop := lw_inc hx hb (ih (i + 6) (by omega) (by omega))
    exact lw_27 hst hxt hXt hx hb hr hml hlocks hF hX hbl hL hdis haC haM hnc hns h hstop (lw_cases hst hxt hXt hx hb hr hml hlocks hF hX hbl hL hdis haC haM hnc hns h hstop)
end LWL
