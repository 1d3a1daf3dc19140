section MH24_0
/-! ===== the law: its loop ===== -/
theorem lw_d16 : decode code 16 = .ok (.iconst 0, 1) := by decide +kernel
theorem lw_d17 : decode code 17 = .ok (.istore_n 3, 1) := by decide +kernel
theorem lw_d18 : decode code 18 = .ok (.iload_n 3, 1) := by decide +kernel
theorem lw_d19 : decode code 19 = .ok (.aload_n 0, 1) := by decide +kernel
theorem lw_d20 : decode code 20 = .ok (.arraylength, 1) := by decide +kernel
theorem lw_d21 : decode code 21 = .ok (.bipush 6, 2) := by decide +kernel
theorem lw_d23 : decode code 23 = .ok (.isub, 1) := by decide +kernel
theorem lw_d24 : decode code 24 = .ok (.if_icmp .gt 2139, 3) := by decide +kernel
theorem lw_d27 : decode code 27 = .ok (.aload_n 0, 1) := by decide +kernel
theorem lw_d28 : decode code 28 = .ok (.iload_n 3, 1) := by decide +kernel
theorem lw_d29 : decode code 29 = .ok (.iaload, 1) := by decide +kernel
theorem lw_d30 : decode code 30 = .ok (.bipush 63, 2) := by decide +kernel
theorem lw_d32 : decode code 32 = .ok (.iand, 1) := by decide +kernel
theorem lw_d33 : decode code 33 = .ok (.tableswitch 2124 0 58 #[251, 264, 277, 290, 333, 406, 439, 502, 565, 588, 611, 634, 657, 690, 723, 756, 789, 822, 845, 888, 921, 944, 967, 990, 1013, 1036, 1059, 1092, 1151, 1184, 1217, 1250, 1293, 1326, 1359, 1402, 1425, 1458, 1491, 1514, 1527, 1550, 1583, 1626, 1659, 1672, 1695, 1718, 1751, 1784, 1817, 1840, 1903, 1966, 2019, 2042, 2065, 2098, 2111], 251) := by decide +kernel
theorem lw_d2157 : decode code 2157 = .ok (.iinc 3 6, 3) := fd_dec_at 2157 (rs := [(2157, .iinc 3 6, 3)]) (by decide +kernel) (2157, .iinc 3 6, 3) List.mem_cons_self
theorem lw_d2160 : decode code 2160 = .ok (.goto (-2142), 3) := fd_dec_at 2160 (rs := [(2160, .goto (-2142), 3)]) (by decide +kernel) (2160, .goto (-2142), 3) List.mem_cons_self
theorem lw_d2163 : decode code 2163 = .ok (.iconst 1, 1) := fd_dec_at 2163 (rs := [(2163, .iconst 1, 1)]) (by decide +kernel) (2163, .iconst 1, 1) List.mem_cons_self
theorem lw_d2164 : decode code 2164 = .ok (.ireturn, 1) := fd_dec_at 2164 (rs := [(2164, .ireturn, 1)]) (by decide +kernel) (2164, .ireturn, 1) List.mem_cons_self
def lv_tg : List Nat := [284, 297, 310, 323, 366, 439, 472, 535, 598, 621, 644, 667, 690, 723, 756, 789, 822, 855, 878, 921, 954, 977, 1000, 1023, 1046, 1069, 1092, 1125, 1184, 1217, 1250, 1283, 1326, 1359, 1392, 1435, 1458, 1491, 1524, 1547, 1560, 1583, 1616, 1659, 1692, 1705, 1728, 1751, 1784, 1817, 1850, 1873, 1936, 1999, 2052, 2075, 2098, 2131, 2144]
theorem lw_of33 {j : Nat} (hj : j < 59) : (#[251, 264, 277, 290, 333, 406, 439, 502, 565, 588, 611, 634, 657, 690, 723, 756, 789, 822, 845, 888, 921, 944, 967, 990, 1013, 1036, 1059, 1092, 1151, 1184, 1217, 1250, 1293, 1326, 1359, 1402, 1425, 1458, 1491, 1514, 1527, 1550, 1583, 1626, 1659, 1672, 1695, 1718, 1751, 1784, 1817, 1840, 1903, 1966, 2019, 2042, 2065, 2098, 2111] : Array Int)[j]? = some ((lv_tg.getD j 0 : Int) - 33) := of_decide_eq_true (List.all_eq_true.mp (show (List.range 59).all (fun j => decide ((#[251, 264, 277, 290, 333, 406, 439, 502, 565, 588, 611, 634, 657, 690, 723, 756, 789, 822, 845, 888, 921, 944, 967, 990, 1013, 1036, 1059, 1092, 1151, 1184, 1217, 1250, 1293, 1326, 1359, 1402, 1425, 1458, 1491, 1514, 1527, 1550, 1583, 1626, 1659, 1672, 1695, 1718, 1751, 1784, 1817, 1840, 1903, 1966, 2019, 2042, 2065, 2098, 2111] : Array Int)[j]? = some ((lv_tg.getD j 0 : Int) - 33))) = true from by decide +kernel) j (List.mem_range.mpr hj))
theorem lw_sub6 {L : Nat} (h : L ≤ 3072) : (Int32.ofNat L - 6).toInt = (L : Int) - 6 := by
  rw [Int32.toInt_sub, show (Int32.ofNat L).toInt = (L : Int) from nI_toInt (n := L) (by omega), show (6 : Int32).toInt = 6 from rfl]
  exact Int.bmod_eq_of_le (by omega) (by omega)
theorem lw_and63 (x : Int32) : ∃ j : Nat, j < 64 ∧ x &&& 63 = nI j := by
  have h := rk_s_and x 63 (-2147483648, 2147483647) (63, 63) (fm_i32 x).1 (fm_i32 x).2 (by decide) (by decide)
  have h : 0 ≤ (x &&& 63).toInt ∧ (x &&& 63).toInt ≤ 63 := h
  obtain ⟨j, hj, e⟩ := nI_bd (n := 63) h.1 h.2
  exact ⟨j, by omega, e⟩

section LWL
variable {p : Program} {l : Launch} {e : Env} {s : State} {m : MethodId} {below : List Frame} {meth : Method} {c : Code} {D : va_G} {xt : tk_XT} {b ax am L nc ns : Nat} {xs : Nat → Int32} {adC adM : List Nat}
set_option maxHeartbeats 4000000 in
theorem lw_head (hst : ∀ (Ad : Nat → Prop) (U : State) (H : Heap), xt Ad U H → ∃ pl v tx, sk_X pl v Ad U H ∧ vk_R "GooseIceModel" 189 tx pl U) (hxt : tk_xtok xt) (hXt : xt (gk_A s) s s.heap) (hx : p.tables.exec = Jvm.exec) (hb : c.code = code) (hr : meth.sig.returnType = ret) (hml : c.maxLocals = 4) (hlocks : meth.locks = false) (hF : rk_Fr s m #[Value.ref b] meth D gk_cl (gk_A s) gk_tbl gk_xw gk_fty gk_cln "GooseIceLaw" gk_lk12 gk_lcs) (hX : va_X b L xs s s.heap) (hbl : b < s.heap.size) (hL : L ≤ 3072) (hdis : ∀ x ∈ adM, ¬ x ∈ adC) (haC : tk_ty adC lw_twC 0 ax) (haM : tk_ty adM lw_twM 0 am) (hlC : adC.length = lw_twC.length) (hlM : adM.length = lw_twM.length) (hnc : nc ≤ 600000) (hns : ns ≤ 7302250) {i : Nat} (hi : i ≤ 3078) (hcont : i + 6 ≤ L → lr_Z (gk_K p l e s m below meth c b) s D (gk_A s) adC adM lr_RR b ax am i xs nc ns 27) : lr_Z (gk_K p l e s m below meth c b) s D (gk_A s) adC adM lr_RR b ax am i xs nc ns 18 := by
  intro u w H locs ls stk hJ hl hS
  have hn := hS.nil
  subst hn
  obtain ⟨wc, wm, hC, hM, hS0, hRR⟩ := id hJ
  have hbA : ¬ gk_A s b := Nat.not_le.mpr hbl
  refine lv_iload_n hx hb lw_d18 rfl (lv_at hl 0 rfl) ?_
  refine lv_aload_n hx hb lw_d19 rfl (lv_at hl 3 rfl) ?_
  refine va_slen hx hb hX hbl hbA hS0 lw_d20 ?_
  refine lv_bipush (v := 6) hx hb lw_d21 (by decide) ?_
  refine lv_isub hx hb lw_d23 ?_
  refine lv_icmp_gt (tgt := 2163) hx hb lw_d24 (by decide) (fun _ => ?_) (fun h => ?_)
  · refine lv_iconst (v := 1) hx hb lw_d2163 (by decide) ?_
    refine va_forget (fun q hq => hS0.2.2 q hq) ?_
    refine W.widen (k := 600000) (n := 7302250) hnc hns ?_
    exact lw_ret hx hb hr hlocks lw_d2164
  · refine hcont ?_ u w H locs ls [] hJ hl trivial
    rw [Int32.lt_iff_toInt_lt, lw_sub6 hL, nI_i32 (by omega)] at h
    omega
set_option maxHeartbeats 4000000 in
theorem lw_27 (hst : ∀ (Ad : Nat → Prop) (U : State) (H : Heap), xt Ad U H → ∃ pl v tx, sk_X pl v Ad U H ∧ vk_R "GooseIceModel" 189 tx pl U) (hxt : tk_xtok xt) (hXt : xt (gk_A s) s s.heap) (hx : p.tables.exec = Jvm.exec) (hb : c.code = code) (hr : meth.sig.returnType = ret) (hml : c.maxLocals = 4) (hlocks : meth.locks = false) (hF : rk_Fr s m #[Value.ref b] meth D gk_cl (gk_A s) gk_tbl gk_xw gk_fty gk_cln "GooseIceLaw" gk_lk12 gk_lcs) (hX : va_X b L xs s s.heap) (hbl : b < s.heap.size) (hL : L ≤ 3072) (hdis : ∀ x ∈ adM, ¬ x ∈ adC) (haC : tk_ty adC lw_twC 0 ax) (haM : tk_ty adM lw_twM 0 am) (hlC : adC.length = lw_twC.length) (hlM : adM.length = lw_twM.length) (hnc : nc ≤ 600000) (hns : ns ≤ 7302250) {i : Nat} (hi : i + 6 ≤ L) (hstop : lr_Z (gk_K p l e s m below meth c b) s D (gk_A s) adC adM lr_RR b ax am i xs nc ns 2157) (hcase : ∀ j, j < 59 → lr_Z (gk_K p l e s m below meth c b) s D (gk_A s) adC adM lr_RR b ax am i xs nc ns (lv_tg.getD j 0)) : lr_Z (gk_K p l e s m below meth c b) s D (gk_A s) adC adM lr_RR b ax am i xs nc ns 27 := by
  intro u w H locs ls stk hJ hl hS
  have hn := hS.nil
  subst hn
  obtain ⟨wc, wm, hC, hM, hS0, hRR⟩ := id hJ
  have hbA : ¬ gk_A s b := Nat.not_le.mpr hbl
  refine lv_aload_n hx hb lw_d27 rfl (lv_at hl 3 rfl) ?_
  refine lv_iload_n hx hb lw_d28 rfl (lv_at hl 0 rfl) ?_
  refine va_sld hx hb hX hbl hbA hS0 (vp_in_iff.mpr (by rw [nI_i32 (by omega)]; omega)) lw_d29 ?_
  refine lv_bipush (v := 63) hx hb lw_d30 (by decide) ?_
  refine lv_iand hx hb lw_d32 ?_
  obtain ⟨j, hj, ej⟩ := lw_and63 (xs (nI i).toNatClampNeg)
  rw [ej]
  have hjt : (nI j).toInt = (j : Int) := nI_i32 (by omega)
  by_cases h59 : j < 59
  · refine lv_tableIn (off := (lv_tg.getD j 0 : Int) - 33) (tgt := lv_tg.getD j 0) hx hb lw_d33 (by rw [hjt]; omega) (by rw [hjt]; omega) (by rw [hjt, show ((j : Int) - 0).toNat = j by omega]; exact lw_of33 h59) (by show (33 : Int) + _ = _; omega) ?_
    exact hcase j h59 u w H locs ls [] hJ hl trivial
  · refine lv_tableOut (tgt := 2157) hx hb lw_d33 (Or.inr (by rw [hjt]; omega)) (by decide) ?_
    exact hstop u w H locs ls [] hJ hl trivial
set_option maxHeartbeats 4000000 in
theorem lw_inc (hx : p.tables.exec = Jvm.exec) (hb : c.code = code) {i : Nat} (h18 : lr_Z (gk_K p l e s m below meth c b) s D (gk_A s) adC adM lr_RR b ax am (i + 6) xs nc ns 18) : lr_Z (gk_K p l e s m below meth c b) s D (gk_A s) adC adM lr_RR b ax am i xs nc ns 2157 := by
  intro u w H locs ls stk hJ hl hS
  have hn := hS.nil
  subst hn
  refine lv_iinc (k := 0) (v := nI (i + 6)) hx hb lw_d2157 hl rfl ?_ (by decide) (lv' := lw_lc b ax am (i + 6)) rfl (fun ls' hl' => ?_)
  · rw [show Int32.ofInt 6 = nI 6 from by decide]
    exact nI_add i 6
  · refine lv_goto (tgt := 18) hx hb lw_d2160 (by decide) ?_
    exact h18 u w H locs ls' [] hJ hl' trivial
theorem lw_cases (hst : ∀ (Ad : Nat → Prop) (U : State) (H : Heap), xt Ad U H → ∃ pl v tx, sk_X pl v Ad U H ∧ vk_R "GooseIceModel" 189 tx pl U) (hxt : tk_xtok xt) (hXt : xt (gk_A s) s s.heap) (hx : p.tables.exec = Jvm.exec) (hb : c.code = code) (hr : meth.sig.returnType = ret) (hml : c.maxLocals = 4) (hlocks : meth.locks = false) (hF : rk_Fr s m #[Value.ref b] meth D gk_cl (gk_A s) gk_tbl gk_xw gk_fty gk_cln "GooseIceLaw" gk_lk12 gk_lcs) (hX : va_X b L xs s s.heap) (hbl : b < s.heap.size) (hL : L ≤ 3072) (hdis : ∀ x ∈ adM, ¬ x ∈ adC) (haC : tk_ty adC lw_twC 0 ax) (haM : tk_ty adM lw_twM 0 am) (hlC : adC.length = lw_twC.length) (hlM : adM.length = lw_twM.length) (hnc : nc ≤ 600000) (hns : ns ≤ 7302250) {i : Nat} (hi : i + 6 ≤ L) (hstop : lr_Z (gk_K p l e s m below meth c b) s D (gk_A s) adC adM lr_RR b ax am i xs nc ns 2157) : ∀ j, j < 59 → lr_Z (gk_K p l e s m below meth c b) s D (gk_A s) adC adM lr_RR b ax am i xs nc ns (lv_tg.getD j 0) := by
  intro j hj
  match j, hj with
  | 0, _ => exact lv_case0 hst hxt hXt hx hb hr hml hlocks hF hX hbl hL hdis haC haM hlC hlM hnc hns hi hstop
  | 1, _ => exact lv_case1 hst hxt hXt hx hb hr hml hlocks hF hX hbl hL hdis haC haM hlC hlM hnc hns hi hstop
  | 2, _ => exact lv_case2 hst hxt hXt hx hb hr hml hlocks hF hX hbl hL hdis haC haM hlC hlM hnc hns hi hstop
  | 3, _ => exact lv_case3 hst hxt hXt hx hb hr hml hlocks hF hX hbl hL hdis haC haM hlC hlM hnc hns hi hstop
  | 4, _ => exact lv_case4 hst hxt hXt hx hb hr hml hlocks hF hX hbl hL hdis haC haM hlC hlM hnc hns hi hstop
  | 5, _ => exact lv_case5 hst hxt hXt hx hb hr hml hlocks hF hX hbl hL hdis haC haM hlC hlM hnc hns hi hstop
  | 6, _ => exact lv_case6 hst hxt hXt hx hb hr hml hlocks hF hX hbl hL hdis haC haM hlC hlM hnc hns hi hstop
  | 7, _ => exact lv_case7 hst hxt hXt hx hb hr hml hlocks hF hX hbl hL hdis haC haM hlC hlM hnc hns hi hstop
  | 8, _ => exact lv_case8 hst hxt hXt hx hb hr hml hlocks hF hX hbl hL hdis haC haM hlC hlM hnc hns hi hstop
  | 9, _ => exact lv_case9 hst hxt hXt hx hb hr hml hlocks hF hX hbl hL hdis haC haM hlC hlM hnc hns hi hstop
  | 10, _ => exact lv_case10 hst hxt hXt hx hb hr hml hlocks hF hX hbl hL hdis haC haM hlC hlM hnc hns hi hstop
  | 11, _ => exact lv_case11 hst hxt hXt hx hb hr hml hlocks hF hX hbl hL hdis haC haM hlC hlM hnc hns hi hstop
  | 12, _ => exact lv_case12 hst hxt hXt hx hb hr hml hlocks hF hX hbl hL hdis haC haM hlC hlM hnc hns hi hstop
  | 13, _ => exact lv_case13 hst hxt hXt hx hb hr hml hlocks hF hX hbl hL hdis haC haM hlC hlM hnc hns hi hstop
  | 14, _ => exact lv_case14 hst hxt hXt hx hb hr hml hlocks hF hX hbl hL hdis haC haM hlC hlM hnc hns hi hstop
  | 15, _ => exact lv_case15 hst hxt hXt hx hb hr hml hlocks hF hX hbl hL hdis haC haM hlC hlM hnc hns hi hstop
  | 16, _ => exact lv_case16 hst hxt hXt hx hb hr hml hlocks hF hX hbl hL hdis haC haM hlC hlM hnc hns hi hstop
  | 17, _ => exact lv_case17 hst hxt hXt hx hb hr hml hlocks hF hX hbl hL hdis haC haM hlC hlM hnc hns hi hstop
  | 18, _ => exact lv_case18 hst hxt hXt hx hb hr hml hlocks hF hX hbl hL hdis haC haM hlC hlM hnc hns hi hstop
  | 19, _ => exact lv_case19 hst hxt hXt hx hb hr hml hlocks hF hX hbl hL hdis haC haM hlC hlM hnc hns hi hstop
  | 20, _ => exact lv_case20 hst hxt hXt hx hb hr hml hlocks hF hX hbl hL hdis haC haM hlC hlM hnc hns hi hstop
  | 21, _ => exact lv_case21 hst hxt hXt hx hb hr hml hlocks hF hX hbl hL hdis haC haM hlC hlM hnc hns hi hstop
  | 22, _ => exact lv_case22 hst hxt hXt hx hb hr hml hlocks hF hX hbl hL hdis haC haM hlC hlM hnc hns hi hstop
  | 23, _ => exact lv_case23 hst hxt hXt hx hb hr hml hlocks hF hX hbl hL hdis haC haM hlC hlM hnc hns hi hstop
  | 24, _ => exact lv_case24 hst hxt hXt hx hb hr hml hlocks hF hX hbl hL hdis haC haM hlC hlM hnc hns hi hstop
  | 25, _ => exact lv_case25 hst hxt hXt hx hb hr hml hlocks hF hX hbl hL hdis haC haM hlC hlM hnc hns hi hstop
  | 26, _ => exact lv_case26 hst hxt hXt hx hb hr hml hlocks hF hX hbl hL hdis haC haM hlC hlM hnc hns hi hstop
  | 27, _ => exact lv_case27 hst hxt hXt hx hb hr hml hlocks hF hX hbl hL hdis haC haM hlC hlM hnc hns hi hstop
  | 28, _ => exact lv_case28 hst hxt hXt hx hb hr hml hlocks hF hX hbl hL hdis haC haM hlC hlM hnc hns hi hstop
  | 29, _ => exact lv_case29 hst hxt hXt hx hb hr hml hlocks hF hX hbl hL hdis haC haM hlC hlM hnc hns hi hstop
  | 30, _ => exact lv_case30 hst hxt hXt hx hb hr hml hlocks hF hX hbl hL hdis haC haM hlC hlM hnc hns hi hstop
  | 31, _ => exact lv_case31 hst hxt hXt hx hb hr hml hlocks hF hX hbl hL hdis haC haM hlC hlM hnc hns hi hstop
  | 32, _ => exact lv_case32 hst hxt hXt hx hb hr hml hlocks hF hX hbl hL hdis haC haM hlC hlM hnc hns hi hstop
  | 33, _ => exact lv_case33 hst hxt hXt hx hb hr hml hlocks hF hX hbl hL hdis haC haM hlC hlM hnc hns hi hstop
  | 34, _ => exact lv_case34 hst hxt hXt hx hb hr hml hlocks hF hX hbl hL hdis haC haM hlC hlM hnc hns hi hstop
  | 35, _ => exact lv_case35 hst hxt hXt hx hb hr hml hlocks hF hX hbl hL hdis haC haM hlC hlM hnc hns hi hstop
  | 36, _ => exact lv_case36 hst hxt hXt hx hb hr hml hlocks hF hX hbl hL hdis haC haM hlC hlM hnc hns hi hstop
  | 37, _ => exact lv_case37 hst hxt hXt hx hb hr hml hlocks hF hX hbl hL hdis haC haM hlC hlM hnc hns hi hstop
  | 38, _ => exact lv_case38 hst hxt hXt hx hb hr hml hlocks hF hX hbl hL hdis haC haM hlC hlM hnc hns hi hstop
  | 39, _ => exact lv_case39 hst hxt hXt hx hb hr hml hlocks hF hX hbl hL hdis haC haM hlC hlM hnc hns hi hstop
  | 40, _ => exact lv_case40 hst hxt hXt hx hb hr hml hlocks hF hX hbl hL hdis haC haM hlC hlM hnc hns hi hstop
  | 41, _ => exact lv_case41 hst hxt hXt hx hb hr hml hlocks hF hX hbl hL hdis haC haM hlC hlM hnc hns hi hstop
  | 42, _ => exact lv_case42 hst hxt hXt hx hb hr hml hlocks hF hX hbl hL hdis haC haM hlC hlM hnc hns hi hstop
  | 43, _ => exact lv_case43 hst hxt hXt hx hb hr hml hlocks hF hX hbl hL hdis haC haM hlC hlM hnc hns hi hstop
  | 44, _ => exact lv_case44 hst hxt hXt hx hb hr hml hlocks hF hX hbl hL hdis haC haM hlC hlM hnc hns hi hstop
  | 45, _ => exact lv_case45 hst hxt hXt hx hb hr hml hlocks hF hX hbl hL hdis haC haM hlC hlM hnc hns hi hstop
  | 46, _ => exact lv_case46 hst hxt hXt hx hb hr hml hlocks hF hX hbl hL hdis haC haM hlC hlM hnc hns hi hstop
  | 47, _ => exact lv_case47 hst hxt hXt hx hb hr hml hlocks hF hX hbl hL hdis haC haM hlC hlM hnc hns hi hstop
  | 48, _ => exact lv_case48 hst hxt hXt hx hb hr hml hlocks hF hX hbl hL hdis haC haM hlC hlM hnc hns hi hstop
  | 49, _ => exact lv_case49 hst hxt hXt hx hb hr hml hlocks hF hX hbl hL hdis haC haM hlC hlM hnc hns hi hstop
  | 50, _ => exact lv_case50 hst hxt hXt hx hb hr hml hlocks hF hX hbl hL hdis haC haM hlC hlM hnc hns hi hstop
  | 51, _ => exact lv_case51 hst hxt hXt hx hb hr hml hlocks hF hX hbl hL hdis haC haM hlC hlM hnc hns hi hstop
  | 52, _ => exact lv_case52 hst hxt hXt hx hb hr hml hlocks hF hX hbl hL hdis haC haM hlC hlM hnc hns hi hstop
  | 53, _ => exact lv_case53 hst hxt hXt hx hb hr hml hlocks hF hX hbl hL hdis haC haM hlC hlM hnc hns hi hstop
  | 54, _ => exact lv_case54 hst hxt hXt hx hb hr hml hlocks hF hX hbl hL hdis haC haM hlC hlM hnc hns hi hstop
  | 55, _ => exact lv_case55 hst hxt hXt hx hb hr hml hlocks hF hX hbl hL hdis haC haM hlC hlM hnc hns hi hstop
  | 56, _ => exact lv_case56 hst hxt hXt hx hb hr hml hlocks hF hX hbl hL hdis haC haM hlC hlM hnc hns hi hstop
  | 57, _ => exact lv_case57 hst hxt hXt hx hb hr hml hlocks hF hX hbl hL hdis haC haM hlC hlM hnc hns hi hstop
  | 58, _ => exact lv_case58 hst hxt hXt hx hb hr hml hlocks hF hX hbl hL hdis haC haM hlC hlM hnc hns hi hstop
  | n + 59, h => exact absurd h (by omega)
theorem lw_loop (hst : ∀ (Ad : Nat → Prop) (U : State) (H : Heap), xt Ad U H → ∃ pl v tx, sk_X pl v Ad U H ∧ vk_R "GooseIceModel" 189 tx pl U) (hxt : tk_xtok xt) (hXt : xt (gk_A s) s s.heap) (hx : p.tables.exec = Jvm.exec) (hb : c.code = code) (hr : meth.sig.returnType = ret) (hml : c.maxLocals = 4) (hlocks : meth.locks = false) (hF : rk_Fr s m #[Value.ref b] meth D gk_cl (gk_A s) gk_tbl gk_xw gk_fty gk_cln "GooseIceLaw" gk_lk12 gk_lcs) (hX : va_X b L xs s s.heap) (hbl : b < s.heap.size) (hL : L ≤ 3072) (hdis : ∀ x ∈ adM, ¬ x ∈ adC) (haC : tk_ty adC lw_twC 0 ax) (haM : tk_ty adM lw_twM 0 am) (hlC : adC.length = lw_twC.length) (hlM : adM.length = lw_twM.length) (hnc : nc ≤ 600000) (hns : ns ≤ 7302250) : ∀ (n i : Nat), L < i + 6 * n + 6 → i ≤ L + 6 → lr_Z (gk_K p l e s m below meth c b) s D (gk_A s) adC adM lr_RR b ax am i xs nc ns 18 := by
  intro n
  induction n with
  | zero =>
    intro i h1 h2
    exact lw_head hst hxt hXt hx hb hr hml hlocks hF hX hbl hL hdis haC haM hlC hlM hnc hns (by omega) (fun h => absurd h (by omega))
  | succ n ih =>
    intro i h1 h2
    refine lw_head hst hxt hXt hx hb hr hml hlocks hF hX hbl hL hdis haC haM hlC hlM hnc hns (by omega) (fun h => ?_)
    have hstop := lw_inc hx hb (ih (i + 6) (by omega) (by omega))
    exact lw_27 hst hxt hXt hx hb hr hml hlocks hF hX hbl hL hdis haC haM hlC hlM hnc hns h hstop (lw_cases hst hxt hXt hx hb hr hml hlocks hF hX hbl hL hdis haC haM hlC hlM hnc hns h hstop)
end LWL
end MH24_0
section MH24_1
/-! ===== the law: the model's text, by the Statement's own words ===== -/
def gk_tm2 (i : Nat) : Term := Term.string "GooseIceModel" 189
theorem lw_hallL : ((flatC (Jvm.Cond.and given_1 narrow_1)).drop 132).take 117 = (List.range 117).map (fun j => Cond.eq (.elem (.field (gk_tm2 0) "java/lang/String" "value" "[B") (.int (Int32.ofNat j))) (.int (sk_b.getD j 0))) := by decide +kernel
theorem lw_hall2 : ∀ j : Nat, j < 117 → (Cond.eq (.elem (.field (gk_tm2 0) "java/lang/String" "value" "[B") (.int (Int32.ofNat j))) (.int (sk_b.getD j 0))) ∈ flatC (Jvm.Cond.and given_1 narrow_1) := fun j hj => by
  have h : (Cond.eq (.elem (.field (gk_tm2 0) "java/lang/String" "value" "[B") (.int (Int32.ofNat j))) (.int (sk_b.getD j 0))) ∈ (List.range 117).map (fun j => Cond.eq (.elem (.field (gk_tm2 0) "java/lang/String" "value" "[B") (.int (Int32.ofNat j))) (.int (sk_b.getD j 0))) := List.mem_map.mpr ⟨j, List.mem_range.mpr hj, rfl⟩
  rw [← lw_hallL] at h
  exact List.mem_of_mem_drop (List.mem_of_mem_take h)
end MH24_1
