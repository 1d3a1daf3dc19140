section MH15_0
section GN10
variable {l : Launch} {D : va_G} {xt : tk_XT} {ro : Nat → Nat → Int → Prop} {ads tw : List Nat}
/-- GooseIceModel.triedAt -/
def gn_K48 : tk_K := (345, [(2, 0, 0, 0), (0, 1, 1, 0), (0, 2, 1, 0), (0, 3, 1, 0)], ([(0, 60), (1, 6), (1, 60)], []), [0], [], ([(some (0, 4, 1, 0), ([(0, 60), (1, 6), (1, 60), (1, 1000001)], []), [0], [])], []))
def gn_H48 : List tk_Hd := []
theorem gn_48 (hU : gm_U tw) (hxt : tk_xtok xt) : tk_KS l D gk_cl gk_tbl gk_xw xt gk_MN gk_P gm_TY ro (gm_X tw) ads tw 1 gn_K48 := tk_contract (hk := tk_hk0) tk_hk0_ok (gm_xs hU) hxt gk_rok [] 20000 0 0 (Ks := []) (d := 0) (fun _ h => absurd h List.not_mem_nil) (Hs := gn_H48) (by decide +kernel) rfl
/-- GooseIceModel.trialsOf -/
def gn_K49 : tk_K := (344, [(2, 0, 0, 0), (0, 1, 1, 0), (0, 2, 1, 0)], ([(0, 60), (1, 6)], []), [0], [], ([(some (0, 3, 1, 0), ([(0, 60), (1, 6), (0, 1000000)], []), [0], [])], [(15, 0)]))
def gn_H49 : List tk_Hd := [(2, [(0, (2, 0, 0, 0)), (1, (0, 1, 1, 0)), (2, (0, 2, 1, 0)), (3, (0, 3, 1, 0))], ([(0, 60), (1, 6), (0, 7)], []), [0], [], [(0, 0, (0, 0, 0, 0)), (1, 7, (0, 3, 1, 0)), (0, 1, (0, 0, 0, 0)), (0, 0, (0, 0, 0, 0)), (0, 0, (0, 0, 0, 0)), (0, 0, (0, 0, 0, 0)), (0, 0, (0, 0, 0, 0))]), (10, [(0, (2, 0, 0, 0)), (1, (0, 1, 1, 0)), (2, (0, 2, 1, 0)), (3, (0, 3, 1, 0)), (4, (0, 4, 1, 0))], ([(0, 60), (1, 6), (0, 6), (0, 61)], []), [0], [], [(0, 0, (0, 0, 0, 0)), (1, 7, (0, 3, 1, 0)), (0, 0, (0, 0, 0, 0)), (1, 61, (0, 4, 1, 0)), (0, 1, (0, 0, 0, 0)), (0, 0, (0, 0, 0, 0)), (0, 0, (0, 0, 0, 0))]), (43, [(0, (2, 0, 0, 0)), (1, (0, 1, 1, 0)), (2, (0, 2, 1, 0)), (3, (0, 3, 1, 0)), (4, (0, 4, 1, 0)), (5, (0, 5, 1, 0))], ([(0, 60), (1, 6), (0, 6), (0, 60), (1, 61)], []), [0], [], [(0, 0, (0, 0, 0, 0)), (1, 7, (0, 3, 1, 0)), (0, 0, (0, 0, 0, 0)), (1, 61, (0, 4, 1, 0)), (0, 0, (0, 0, 0, 0)), (1, 61, (0, 5, 1, 0)), (0, 0, (0, 0, 0, 0))])]
theorem gn_49 (hU : gm_U tw) (hxt : tk_xtok xt) : tk_KS l D gk_cl gk_tbl gk_xw xt gk_MN gk_P gm_TY ro (gm_X tw) ads tw 2 gn_K49 := tk_contract (hk := tk_hk0) tk_hk0_ok (gm_xs hU) hxt gk_rok [] 20000 0 7 (Ks := [gn_K48]) (d := 1) (List.forall_mem_cons.mpr ⟨tk_KS_up (by decide) (gn_48 hU hxt), (fun _ h => absurd h List.not_mem_nil)⟩) (Hs := gn_H49) (by decide +kernel) rfl
/-- GooseIceModel.trials -/
def gn_K50 : tk_K := (347, [(2, 0, 0, 0), (0, 1, 1, 0), (0, 2, 1, 0)], ([((-2147483648), 2147483647), ((-2147483648), 2147483647)], []), [0], [], ([(some (0, 3, 1, 0), ([((-2147483648), 2147483647), ((-2147483648), 2147483647), ((-1), 1000000), (0, 1)], []), [0], [(0, (0, 0, 0, 2), (0, 4, 1, 0))])], [(0, 2), (15, 0)]))
def gn_H50 : List tk_Hd := []
theorem gn_50 (hU : gm_U tw) (hxt : tk_xtok xt) : tk_KS l D gk_cl gk_tbl gk_xw xt gk_MN gk_P gm_TY ro (gm_X tw) ads tw 5 gn_K50 := tk_contract (hk := tk_hk0) tk_hk0_ok (gm_xs hU) hxt gk_rok [207, 208, 218, 346] 20000 2 0 (Ks := [gn_K48, gn_K49]) (d := 2) (List.forall_mem_cons.mpr ⟨tk_KS_up (by decide) (gn_48 hU hxt), (List.forall_mem_cons.mpr ⟨tk_KS_up (by decide) (gn_49 hU hxt), (fun _ h => absurd h List.not_mem_nil)⟩)⟩) (Hs := gn_H50) (by decide +kernel) rfl
/-- GooseIceModel.lived -/
def gn_K51 : tk_K := (367, [(2, 0, 0, 0), (0, 1, 1, 0)], ([((-2147483648), 2147483647)], []), [0], [], ([(some (0, 2, 1, 0), ([((-2147483648), 2147483647), ((-2147483648), 2147483647), (0, 6)], []), [0], [(0, (0, 0, 0, 2), (0, 3, 1, 0))])], [(0, 2)]))
def gn_H51 : List tk_Hd := []
theorem gn_51 (hU : gm_U tw) (hxt : tk_xtok xt) : tk_KS l D gk_cl gk_tbl gk_xw xt gk_MN gk_P gm_TY ro (gm_X tw) ads tw 2 gn_K51 := tk_contract (hk := tk_hk0) tk_hk0_ok (gm_xs hU) hxt gk_rok [207, 208] 20000 1 0 (Ks := []) (d := 0) (fun _ h => absurd h List.not_mem_nil) (Hs := gn_H51) (by decide +kernel) rfl
end GN10
end MH15_0
section MH15_1
/-! ===== the law: its instructions, the state behind the constructors ===== -/
def sg_b : List Int32 := [105, 99, 101, 32, 98, 101, 97, 114, 115, 32, 115, 104, 111, 114, 101, 32, 119, 97, 121, 32, 98, 101, 115, 105, 100, 101, 32, 119, 97, 108, 107, 101, 114, 32, 119, 101, 105, 103, 104, 115, 32, 97, 116, 32, 119, 111, 114, 115, 101, 32, 104, 111, 117, 114, 32, 98, 101, 116, 116, 101, 114, 32, 115, 101, 110, 100, 32, 116, 111, 32, 115, 116, 101, 112, 32, 102, 114, 111, 115, 116, 32, 116, 104, 97, 119, 32, 97, 110, 121, 32, 119, 104, 101, 110, 32, 105, 110, 32, 119, 101, 116, 32, 108, 111, 111, 112, 32, 101, 110, 100, 32, 115, 116, 111, 112]
def sg_n : Nat := 115
def tg_G : List (List Nat) := [[0, 1000000, 1000000, 1000000, 1000000, 1000000, 1000000, 1000000, 1000000, 1000000, 1000000, 1000000, 1000000, 1000000, 1000000, 1000000, 1000000, 1000000, 1000000, 1000000, 1000000, 1000000, 1000000, 1000000, 1000000, 1000000, 1000000, 1000000, 1000000, 1000000, 1000000, 1000000, 1000000, 1000000, 1000000, 1000000, 1000000, 1000000, 1000000, 1000000, 1000000, 1000000, 1000000, 1000000, 1000000, 1000000, 1000000, 1000000, 1000000, 1000000, 1000000, 1000000, 1000000, 1000000, 1000000, 1000000, 1000000, 1000000, 1000000, 1000000, 1000000], [0, 1, 2, 3, 4, 5, 6, 7, 8, 9, 10, 11, 12, 13, 14, 15, 16, 17, 18, 19, 20, 21, 22, 23, 24, 25, 26, 27, 28, 29, 30, 31, 32, 33, 34, 35, 36, 37, 38, 39, 40, 41, 42, 43, 44, 45, 46, 47, 48, 49, 50, 51, 52, 53, 54, 55, 56, 57, 58, 59, 60], [0, 1, 2, 2, 3, 3, 3, 4, 4, 4, 4, 5, 5, 5, 5, 5, 6, 6, 6, 6, 6, 6, 7, 7, 7, 7, 7, 7, 7, 8, 8, 8, 8, 8, 8, 8, 8, 9, 9, 9, 9, 9, 9, 9, 9, 9, 10, 10, 10, 10, 10, 10, 10, 10, 10, 10, 11, 11, 11, 11, 11], [0, 1, 2, 2, 3, 3, 3, 3, 4, 4, 4, 4, 4, 4, 4, 5, 5, 5, 5, 5, 5, 5, 5, 5, 5, 5, 6, 6, 6, 6, 6, 6, 6, 6, 6, 6, 6, 6, 6, 6, 6, 6, 7, 7, 7, 7, 7, 7, 7, 7, 7, 7, 7, 7, 7, 7, 7, 7, 7, 7, 7], [0, 1, 2, 2, 3, 3, 3, 3, 4, 4, 4, 4, 4, 4, 4, 4, 5, 5, 5, 5, 5, 5, 5, 5, 5, 5, 5, 5, 5, 5, 5, 6, 6, 6, 6, 6, 6, 6, 6, 6, 6, 6, 6, 6, 6, 6, 6, 6, 6, 6, 6, 6, 6, 6, 6, 6, 6, 7, 7, 7, 7], [0, 1, 2, 2, 3, 3, 3, 3, 4, 4, 4, 4, 4, 4, 4, 4, 5, 5, 5, 5, 5, 5, 5, 5, 5, 5, 5, 5, 5, 5, 5, 5, 6, 6, 6, 6, 6, 6, 6, 6, 6, 6, 6, 6, 6, 6, 6, 6, 6, 6, 6, 6, 6, 6, 6, 6, 6, 6, 6, 6, 6], [0, 1, 2, 2, 3, 3, 3, 3, 4, 4, 4, 4, 4, 4, 4, 4, 5, 5, 5, 5, 5, 5, 5, 5, 5, 5, 5, 5, 5, 5, 5, 5, 6, 6, 6, 6, 6, 6, 6, 6, 6, 6, 6, 6, 6, 6, 6, 6, 6, 6, 6, 6, 6, 6, 6, 6, 6, 6, 6, 6, 6]]
def tg (k m : Nat) : Nat := (tg_G.getD k []).getD m 0
/-- the frame of the Reader's constructor: the loop over the text is jumped -/
def rd_lits : List Int64 := [9317, 2262611, 20201029, 23609, 72983685, 773205170, 777297171, 52, 24627813, 278194, 73027762, 628164, 655, 643248, 6897268, 663607, 1497, 762030, 302, 23732, 409072, 5572, 643568]
def rd_ov : List (Nat × rk_V) := [(0, .inl (.long 9317)), (1, .inl (.long 2262611)), (2, .inl (.long 20201029)), (3, .inl (.long 23609)), (4, .inl (.long 72983685)), (5, .inl (.long 773205170)), (6, .inl (.long 777297171)), (7, .inl (.long 52)), (8, .inl (.long 24627813)), (9, .inl (.long 278194)), (10, .inl (.long 73027762)), (11, .inl (.long 628164)), (12, .inl (.long 655)), (13, .inl (.long 643248)), (14, .inl (.long 6897268)), (15, .inl (.long 663607)), (16, .inl (.long 1497)), (17, .inl (.long 762030)), (18, .inl (.long 302)), (19, .inl (.long 23732)), (20, .inl (.long 409072)), (21, .inl (.long 5572)), (22, .inl (.long 643568))]
def rk_rdx : rk_Ext := fun pc ins st => if pc = 35 then (match st.1, st.2.1 with
  | [(2, .inl (.int x2)), (1, .inl (.int x1)), (0, .inr (.inl j))], [] => if x1 = 0 ∧ x2 = 0 then (match st.2.2.2.1[j]? with
    | some (.inl o) => if o.1 = 8 then (match (o.2[1]? : Option rk_V) with
      | some (.inr (.inl k)) => (match st.2.2.2.1[k]? with
        | some (.inr (.long, nn, dd, ov)) => if nn = 23 ∧ ov.isEmpty = true ∧ dd = .inl (.long 0) then some [(99, ([(0, .inr (.inl j))], [], st.2.2.1, st.2.2.2.1.set k (.inr (.long, 23, .inl (.long 0), rd_ov)), st.2.2.2.2.1, st.2.2.2.2.2))] else none
        | _ => none)
      | _ => none) else none
    | _ => none) else none
  | _, _ => none) else none
/-- the frame of the model's plain: its loop is jumped -/
def rk_plx : rk_Ext := fun pc ins st => if pc = 2 then (match st.1, st.2.1 with
  | [(2, .inl (.int x2)), (0, .inr (.inl j)), (1, .inl (.int sv))], [] => if x2 = 0 ∧ 0 ≤ sv.toInt ∧ sv.toInt + 842 ≤ 5894 then (match st.2.2.2.1[j]? with
    | some (.inl o) => if o.1 = 12 then (match (o.2[0]? : Option rk_V) with
      | some (.inr (.inl k)) => (match st.2.2.2.1[k]? with
        | some (.inr (.int, nn, dd, ov)) => if nn = 5894 ∧ dd = .inl (.int 0) then some [(24, ([(0, .inr (.inl j)), (1, .inl (.int sv))], [], st.2.2.1, st.2.2.2.1.set k (.inr (.int, 5894, .inl (.int 0), ov.filter (fun z => decide (z.1 < sv.toInt.toNat) || decide (sv.toInt.toNat + 842 ≤ z.1)))), st.2.2.2.2.1, st.2.2.2.2.2))] else none
        | _ => none)
      | _ => none) else none
    | _ => none) else none
  | _, _ => none) else none
/-- the table of trials, as places that are listed -/
def tg_ov (b n : Nat) : List (Nat × rk_V) := (List.range (b + 1)).flatMap (fun k => (List.range (n + 1)).map (fun t => (61 * k + t, .inl (.int (nI (tg k t))))))
def gk_tx (hp : List rk_H) (k : Nat) (dd : rk_V) (ov : List (Nat × rk_V)) (env : List rk_T) (an ab : rk_V) (lo1 lo2 : Int) (x y : Nat) : List rk_X := match (rk_cut env an (lo1 + x) (lo1 + x)).bind (fun e1 => rk_cut e1 ab (lo2 + y) (lo2 + y)) with
  | some e2 => [(some (.inl (.int (nI (tg (lo2 + y).toNat (lo1 + x).toNat)))), e2, hp.set k (.inr (.int, 427, dd, tg_ov (lo2 + y).toNat (lo1 + x).toNat ++ ov)), 0, 0)]
  | none => []
def gk_ts (as : List rk_V) (env : List rk_T) (hp : List rk_H) : Option rk_O := match as with
  | [.inr (.inl j), an, ab] => match hp[j]? with
    | some (.inl o) => if o.1 = 12 then (match (o.2[32]? : Option rk_V) with
      | some (.inr (.inl k)) => (match hp[k]? with
        | some (.inr (.int, nn, dd, ov)) => if nn = 427 then (match rk_iv env an, rk_iv env ab with
          | some I, some J => if (0 ≤ I.1 ∧ I.2 ≤ 60) ∧ 0 ≤ J.1 ∧ J.2 ≤ 6 then some (0, 0, (List.range (I.2 - I.1 + 1).toNat).flatMap (fun x => (List.range (J.2 - J.1 + 1).toNat).flatMap (fun y => gk_tx hp k dd ov env an ab I.1 J.1 x y))) else none
          | _, _ => none) else none
        | _ => none)
      | _ => none) else none
    | _ => none
  | _ => none
/-- the sums -/
def gk_sum (d f : Nat) (as : List rk_V) (env : List rk_T) (hp : List rk_H) : Option rk_O := if 4 ≤ d then (if f = 344 then gk_ts as env hp else if f = 99 then (if rk_sum env as ≤ gk_m99.2.1 then rk_loop gk_fty gk_cln gk_mci (fun _ _ _ _ => none) rk_rdx gk_m99 200 (0, (rk_args env 0 as, [], env, hp, 0, 0)) else none) else if f = 202 then (if rk_sum env as ≤ gk_m202.2.1 then rk_loop gk_fty gk_cln gk_mci (fun _ _ _ _ => none) rk_plx gk_m202 200 (0, (rk_args env 0 as, [], env, hp, 0, 0)) else none) else none) else none
def gk_la : List (Nat × Instr × Nat) := [(0, .new 7, 3), (3, .dup, 1), (4, .invokespecial 9, 3), (7, .astore_n 1, 1), (8, .new 10, 3), (11, .dup, 1), (12, .invokespecial 12, 3), (15, .astore_n 2, 1), (16, .iconst 0, 1), (17, .istore_n 3, 1), (18, .iload_n 3, 1), (19, .aload_n 0, 1), (20, .arraylength, 1), (21, .bipush 6, 2), (23, .isub, 1), (24, .if_icmp .gt 2139, 3), (27, .aload_n 0, 1), (28, .iload_n 3, 1), (29, .iaload, 1), (30, .bipush 63, 2), (32, .iand, 1), (33, .tableswitch 2124 0 58 #[251, 264, 277, 290, 333, 406, 439, 502, 565, 588, 611, 634, 657, 690, 723, 756, 789, 822, 845, 888, 921, 944, 967, 990, 1013, 1036, 1059, 1092, 1151, 1184, 1217, 1250, 1293, 1326, 1359, 1402, 1425, 1458, 1491, 1514, 1527, 1550, 1583, 1626, 1659, 1672, 1695, 1718, 1751, 1784, 1817, 1840, 1903, 1966, 2019, 2042, 2065, 2098, 2111], 251)]
def gk_lcs : List (Nat × Value) := [(32, .long 4294967295)]
def gk_lM (l : List (Nat × Instr × Nat)) : rk_M2 := (l, 4, gk_lk12, gk_lcs, some .boolean, 999)
def gk_hp : List rk_H := [.inl (11, [.inl (.int 0), .inl (.long 0), .inl (.long 1), .inr (.inl 1), .inr (.inl 6), .inr (.inl 7), .inr (.inl 8), .inr (.inl 9), .inr (.inl 12), .inr (.inl 13), .inr (.inl 15), .inr (.inl 41), .inr (.inl 67), .inl (.int 0), .inr (.inl 68), .inr (.inl 73), .inr (.inl 185), .inr (.inl 188), .inr (.inl 191), .inl (.int 0)]),
  .inr ((.array .long), 4, .inl .null, [(3, .inr (.inl 5)), (2, .inr (.inl 4)), (1, .inr (.inl 3)), (0, .inr (.inl 2))]),
  .inr (.long, 60, .inl (.long 0), []),
  .inr (.long, 60, .inl (.long 0), []),
  .inr (.long, 60, .inl (.long 0), []),
  .inr (.long, 60, .inl (.long 0), []),
  .inr (.int, 4, .inl (.int 0), []),
  .inr (.int, 4, .inl (.int 0), [(3, .inl (.int (-1))), (2, .inl (.int (-1))), (1, .inl (.int (-1))), (0, .inl (.int (-1)))]),
  .inr (.int, 20, .inl (.int 0), []),
  .inl (8, [.inr (.inl 10), .inr (.inl 11), .inl (.int 0), .inl (.int 0), .inl (.int 0), .inl (.int 0), .inl (.int 0), .inl (.int 0), .inl (.long 0), .inl (.int 0), .inl (.int (-1)), .inl (.int (-1))]),
  .inr (.byte, 900, .inl (.int 0), []),
  .inr (.long, 23, .inl (.long 0), [(0, .inl (.long 9317)), (1, .inl (.long 2262611)), (2, .inl (.long 20201029)), (3, .inl (.long 23609)), (4, .inl (.long 72983685)), (5, .inl (.long 773205170)), (6, .inl (.long 777297171)), (7, .inl (.long 52)), (8, .inl (.long 24627813)), (9, .inl (.long 278194)), (10, .inl (.long 73027762)), (11, .inl (.long 628164)), (12, .inl (.long 655)), (13, .inl (.long 643248)), (14, .inl (.long 6897268)), (15, .inl (.long 663607)), (16, .inl (.long 1497)), (17, .inl (.long 762030)), (18, .inl (.long 302)), (19, .inl (.long 23732)), (20, .inl (.long 409072)), (21, .inl (.long 5572)), (22, .inl (.long 643568))]),
  .inl (4, [.inr (.inl 9), .inl (.int 0)]),
  .inl (10, [.inr (.inl 9), .inr (.inl 14), .inl (.int 0)]),
  .inr (.int, 3, .inl (.int 0), []),
  .inl (3, [.inr (.inl 16), .inr (.inl 17), .inr (.inl 18), .inr (.inl 19), .inr (.inl 20), .inr (.inl 21), .inr (.inl 26), .inr (.inl 34), .inl (.int 0), .inl (.int 0), .inl (.int 2), .inl (.int 4), .inl (.int 1), .inl (.int 0)]),
  .inr (.long, 10, .inl (.long 0), []),
  .inr (.int, 10, .inl (.int 0), []),
  .inr (.int, 10, .inl (.int 0), []),
  .inr (.int, 10, .inl (.int 0), []),
  .inr (.int, 10, .inl (.int 0), []),
  .inl (2, [.inr (.inl 22), .inr (.inl 23), .inr (.inl 24), .inr (.inl 25), .inl (.int 0), .inl (.int 0)]),
  .inr (.int, 10, .inl (.int 0), []),
  .inr (.int, 10, .inl (.int 0), []),
  .inr (.int, 10, .inl (.int 0), []),
  .inr (.int, 200, .inl (.int 0), []),
  .inl (0, [.inr (.inl 27), .inr (.inl 28), .inr (.inl 29), .inr (.inl 30), .inr (.inl 31), .inr (.inl 32), .inr (.inl 33), .inl (.int 0), .inl (.int 0), .inl (.int 0)]),
  .inr (.long, 8, .inl (.long 0), []),
  .inr (.int, 8, .inl (.int 0), []),
  .inr (.int, 8, .inl (.int 0), []),
  .inr (.int, 8, .inl (.int 0), []),
  .inr (.int, 8, .inl (.int 0), []),
  .inr (.int, 8, .inl (.int 0), []),
  .inr (.int, 160, .inl (.int 0), []),
  .inl (9, [.inr (.inl 35), .inr (.inl 36), .inr (.inl 37), .inr (.inl 38), .inr (.inl 39), .inr (.inl 40), .inl (.int 0), .inl (.int 0)]),
  .inr (.int, 30, .inl (.int 0), []),
  .inr (.int, 30, .inl (.int 0), []),
  .inr (.int, 30, .inl (.int 0), []),
  .inr (.int, 30, .inl (.int 0), []),
  .inr (.int, 30, .inl (.int 0), []),
  .inr (.int, 30, .inl (.int 0), []),
  .inl (3, [.inr (.inl 42), .inr (.inl 43), .inr (.inl 44), .inr (.inl 45), .inr (.inl 46), .inr (.inl 47), .inr (.inl 52), .inr (.inl 60), .inl (.int 0), .inl (.int 0), .inl (.int 2), .inl (.int 4), .inl (.int 1), .inl (.int 0)]),
  .inr (.long, 10, .inl (.long 0), []),
  .inr (.int, 10, .inl (.int 0), []),
  .inr (.int, 10, .inl (.int 0), []),
  .inr (.int, 10, .inl (.int 0), []),
  .inr (.int, 10, .inl (.int 0), []),
  .inl (2, [.inr (.inl 48), .inr (.inl 49), .inr (.inl 50), .inr (.inl 51), .inl (.int 0), .inl (.int 0)]),
  .inr (.int, 10, .inl (.int 0), []),
  .inr (.int, 10, .inl (.int 0), []),
  .inr (.int, 10, .inl (.int 0), []),
  .inr (.int, 200, .inl (.int 0), []),
  .inl (0, [.inr (.inl 53), .inr (.inl 54), .inr (.inl 55), .inr (.inl 56), .inr (.inl 57), .inr (.inl 58), .inr (.inl 59), .inl (.int 0), .inl (.int 0), .inl (.int 0)]),
  .inr (.long, 8, .inl (.long 0), []),
  .inr (.int, 8, .inl (.int 0), []),
  .inr (.int, 8, .inl (.int 0), []),
  .inr (.int, 8, .inl (.int 0), []),
  .inr (.int, 8, .inl (.int 0), []),
  .inr (.int, 8, .inl (.int 0), []),
  .inr (.int, 160, .inl (.int 0), []),
  .inl (9, [.inr (.inl 61), .inr (.inl 62), .inr (.inl 63), .inr (.inl 64), .inr (.inl 65), .inr (.inl 66), .inl (.int 0), .inl (.int 0)]),
  .inr (.int, 30, .inl (.int 0), []),
  .inr (.int, 30, .inl (.int 0), []),
  .inr (.int, 30, .inl (.int 0), []),
  .inr (.int, 30, .inl (.int 0), []),
  .inr (.int, 30, .inl (.int 0), []),
  .inr (.int, 30, .inl (.int 0), []),
  .inr ((.object "GooseIce$Lake"), 3, .inl .null, [(2, .inr (.inl 244)), (1, .inr (.inl 218)), (0, .inr (.inl 192))]),
  .inl (6, [.inr (.inl 69), .inr (.inl 70), .inr (.inl 71), .inr (.inl 72), .inl (.int 0), .inl (.int 0)]),
  .inr (.int, 10, .inl (.int 0), []),
  .inr (.int, 11, .inl (.int 0), []),
  .inr (.int, 10, .inl (.int 0), []),
  .inr (.int, 1024, .inl (.int 0), []),
  .inl (7, [.inr (.inl 74), .inr (.inl 75), .inr (.inl 76), .inr (.inl 77), .inr (.inl 78), .inr (.inl 79), .inr (.inl 80), .inl (.int 0), .inl (.int 0), .inl (.int 0), .inl (.int 0)]),
  .inr ((.object "GooseIce$Lake"), 4, .inl .null, [(3, .inr (.inl 159)), (2, .inr (.inl 133)), (1, .inr (.inl 107)), (0, .inr (.inl 81))]),
  .inr (.int, 4, .inl (.int 0), []),
  .inr (.int, 4, .inl (.int 0), []),
  .inr (.int, 4, .inl (.int 0), []),
  .inr (.int, 4, .inl (.int 0), []),
  .inr (.int, 4, .inl (.int 0), []),
  .inr (.int, 12, .inl (.int 0), []),
  .inl (3, [.inr (.inl 82), .inr (.inl 83), .inr (.inl 84), .inr (.inl 85), .inr (.inl 86), .inr (.inl 87), .inr (.inl 92), .inr (.inl 100), .inl (.int 0), .inl (.int 0), .inl (.int 2), .inl (.int 4), .inl (.int 1), .inl (.int 0)]),
  .inr (.long, 10, .inl (.long 0), []),
  .inr (.int, 10, .inl (.int 0), []),
  .inr (.int, 10, .inl (.int 0), []),
  .inr (.int, 10, .inl (.int 0), []),
  .inr (.int, 10, .inl (.int 0), []),
  .inl (2, [.inr (.inl 88), .inr (.inl 89), .inr (.inl 90), .inr (.inl 91), .inl (.int 0), .inl (.int 0)]),
  .inr (.int, 10, .inl (.int 0), []),
  .inr (.int, 10, .inl (.int 0), []),
  .inr (.int, 10, .inl (.int 0), []),
  .inr (.int, 200, .inl (.int 0), []),
  .inl (0, [.inr (.inl 93), .inr (.inl 94), .inr (.inl 95), .inr (.inl 96), .inr (.inl 97), .inr (.inl 98), .inr (.inl 99), .inl (.int 0), .inl (.int 0), .inl (.int 0)]),
  .inr (.long, 8, .inl (.long 0), []),
  .inr (.int, 8, .inl (.int 0), []),
  .inr (.int, 8, .inl (.int 0), []),
  .inr (.int, 8, .inl (.int 0), []),
  .inr (.int, 8, .inl (.int 0), []),
  .inr (.int, 8, .inl (.int 0), []),
  .inr (.int, 160, .inl (.int 0), []),
  .inl (9, [.inr (.inl 101), .inr (.inl 102), .inr (.inl 103), .inr (.inl 104), .inr (.inl 105), .inr (.inl 106), .inl (.int 0), .inl (.int 0)]),
  .inr (.int, 30, .inl (.int 0), []),
  .inr (.int, 30, .inl (.int 0), []),
  .inr (.int, 30, .inl (.int 0), []),
  .inr (.int, 30, .inl (.int 0), []),
  .inr (.int, 30, .inl (.int 0), []),
  .inr (.int, 30, .inl (.int 0), []),
  .inl (3, [.inr (.inl 108), .inr (.inl 109), .inr (.inl 110), .inr (.inl 111), .inr (.inl 112), .inr (.inl 113), .inr (.inl 118), .inr (.inl 126), .inl (.int 0), .inl (.int 0), .inl (.int 2), .inl (.int 4), .inl (.int 1), .inl (.int 0)]),
  .inr (.long, 10, .inl (.long 0), []),
  .inr (.int, 10, .inl (.int 0), []),
  .inr (.int, 10, .inl (.int 0), []),
  .inr (.int, 10, .inl (.int 0), []),
  .inr (.int, 10, .inl (.int 0), []),
  .inl (2, [.inr (.inl 114), .inr (.inl 115), .inr (.inl 116), .inr (.inl 117), .inl (.int 0), .inl (.int 0)]),
  .inr (.int, 10, .inl (.int 0), []),
  .inr (.int, 10, .inl (.int 0), []),
  .inr (.int, 10, .inl (.int 0), []),
  .inr (.int, 200, .inl (.int 0), []),
  .inl (0, [.inr (.inl 119), .inr (.inl 120), .inr (.inl 121), .inr (.inl 122), .inr (.inl 123), .inr (.inl 124), .inr (.inl 125), .inl (.int 0), .inl (.int 0), .inl (.int 0)]),
  .inr (.long, 8, .inl (.long 0), []),
  .inr (.int, 8, .inl (.int 0), []),
  .inr (.int, 8, .inl (.int 0), []),
  .inr (.int, 8, .inl (.int 0), []),
  .inr (.int, 8, .inl (.int 0), []),
  .inr (.int, 8, .inl (.int 0), []),
  .inr (.int, 160, .inl (.int 0), []),
  .inl (9, [.inr (.inl 127), .inr (.inl 128), .inr (.inl 129), .inr (.inl 130), .inr (.inl 131), .inr (.inl 132), .inl (.int 0), .inl (.int 0)]),
  .inr (.int, 30, .inl (.int 0), []),
  .inr (.int, 30, .inl (.int 0), []),
  .inr (.int, 30, .inl (.int 0), []),
  .inr (.int, 30, .inl (.int 0), []),
  .inr (.int, 30, .inl (.int 0), []),
  .inr (.int, 30, .inl (.int 0), []),
  .inl (3, [.inr (.inl 134), .inr (.inl 135), .inr (.inl 136), .inr (.inl 137), .inr (.inl 138), .inr (.inl 139), .inr (.inl 144), .inr (.inl 152), .inl (.int 0), .inl (.int 0), .inl (.int 2), .inl (.int 4), .inl (.int 1), .inl (.int 0)]),
  .inr (.long, 10, .inl (.long 0), []),
  .inr (.int, 10, .inl (.int 0), []),
  .inr (.int, 10, .inl (.int 0), []),
  .inr (.int, 10, .inl (.int 0), []),
  .inr (.int, 10, .inl (.int 0), []),
  .inl (2, [.inr (.inl 140), .inr (.inl 141), .inr (.inl 142), .inr (.inl 143), .inl (.int 0), .inl (.int 0)]),
  .inr (.int, 10, .inl (.int 0), []),
  .inr (.int, 10, .inl (.int 0), []),
  .inr (.int, 10, .inl (.int 0), []),
  .inr (.int, 200, .inl (.int 0), []),
  .inl (0, [.inr (.inl 145), .inr (.inl 146), .inr (.inl 147), .inr (.inl 148), .inr (.inl 149), .inr (.inl 150), .inr (.inl 151), .inl (.int 0), .inl (.int 0), .inl (.int 0)]),
  .inr (.long, 8, .inl (.long 0), []),
  .inr (.int, 8, .inl (.int 0), []),
  .inr (.int, 8, .inl (.int 0), []),
  .inr (.int, 8, .inl (.int 0), []),
  .inr (.int, 8, .inl (.int 0), []),
  .inr (.int, 8, .inl (.int 0), []),
  .inr (.int, 160, .inl (.int 0), []),
  .inl (9, [.inr (.inl 153), .inr (.inl 154), .inr (.inl 155), .inr (.inl 156), .inr (.inl 157), .inr (.inl 158), .inl (.int 0), .inl (.int 0)]),
  .inr (.int, 30, .inl (.int 0), []),
  .inr (.int, 30, .inl (.int 0), []),
  .inr (.int, 30, .inl (.int 0), []),
  .inr (.int, 30, .inl (.int 0), []),
  .inr (.int, 30, .inl (.int 0), []),
  .inr (.int, 30, .inl (.int 0), []),
  .inl (3, [.inr (.inl 160), .inr (.inl 161), .inr (.inl 162), .inr (.inl 163), .inr (.inl 164), .inr (.inl 165), .inr (.inl 170), .inr (.inl 178), .inl (.int 0), .inl (.int 0), .inl (.int 2), .inl (.int 4), .inl (.int 1), .inl (.int 0)]),
  .inr (.long, 10, .inl (.long 0), []),
  .inr (.int, 10, .inl (.int 0), []),
  .inr (.int, 10, .inl (.int 0), []),
  .inr (.int, 10, .inl (.int 0), []),
  .inr (.int, 10, .inl (.int 0), []),
  .inl (2, [.inr (.inl 166), .inr (.inl 167), .inr (.inl 168), .inr (.inl 169), .inl (.int 0), .inl (.int 0)]),
  .inr (.int, 10, .inl (.int 0), []),
  .inr (.int, 10, .inl (.int 0), []),
  .inr (.int, 10, .inl (.int 0), []),
  .inr (.int, 200, .inl (.int 0), []),
  .inl (0, [.inr (.inl 171), .inr (.inl 172), .inr (.inl 173), .inr (.inl 174), .inr (.inl 175), .inr (.inl 176), .inr (.inl 177), .inl (.int 0), .inl (.int 0), .inl (.int 0)]),
  .inr (.long, 8, .inl (.long 0), []),
  .inr (.int, 8, .inl (.int 0), []),
  .inr (.int, 8, .inl (.int 0), []),
  .inr (.int, 8, .inl (.int 0), []),
  .inr (.int, 8, .inl (.int 0), []),
  .inr (.int, 8, .inl (.int 0), []),
  .inr (.int, 160, .inl (.int 0), []),
  .inl (9, [.inr (.inl 179), .inr (.inl 180), .inr (.inl 181), .inr (.inl 182), .inr (.inl 183), .inr (.inl 184), .inl (.int 0), .inl (.int 0)]),
  .inr (.int, 30, .inl (.int 0), []),
  .inr (.int, 30, .inl (.int 0), []),
  .inr (.int, 30, .inl (.int 0), []),
  .inr (.int, 30, .inl (.int 0), []),
  .inr (.int, 30, .inl (.int 0), []),
  .inr (.int, 30, .inl (.int 0), []),
  .inl (1, [.inr (.inl 186), .inr (.inl 187), .inl (.int 0)]),
  .inr (.long, 21, .inl (.long 0), []),
  .inr (.long, 21, .inl (.long 0), []),
  .inl (5, [.inr (.inl 68), .inr (.inl 189), .inr (.inl 190), .inl (.int 0), .inl (.int 0), .inl (.int 0), .inl (.int 0), .inl (.int 0), .inl (.int 0), .inl (.int 0), .inl (.int 0)]),
  .inr (.int, 3, .inl (.int 0), []),
  .inr (.int, 3, .inl (.int 0), []),
  .inr (.int, 5, .inl (.int 0), []),
  .inl (3, [.inr (.inl 193), .inr (.inl 194), .inr (.inl 195), .inr (.inl 196), .inr (.inl 197), .inr (.inl 198), .inr (.inl 203), .inr (.inl 211), .inl (.int 0), .inl (.int 0), .inl (.int 2), .inl (.int 4), .inl (.int 1), .inl (.int 0)]),
  .inr (.long, 10, .inl (.long 0), []),
  .inr (.int, 10, .inl (.int 0), []),
  .inr (.int, 10, .inl (.int 0), []),
  .inr (.int, 10, .inl (.int 0), []),
  .inr (.int, 10, .inl (.int 0), []),
  .inl (2, [.inr (.inl 199), .inr (.inl 200), .inr (.inl 201), .inr (.inl 202), .inl (.int 0), .inl (.int 0)]),
  .inr (.int, 10, .inl (.int 0), []),
  .inr (.int, 10, .inl (.int 0), []),
  .inr (.int, 10, .inl (.int 0), []),
  .inr (.int, 200, .inl (.int 0), []),
  .inl (0, [.inr (.inl 204), .inr (.inl 205), .inr (.inl 206), .inr (.inl 207), .inr (.inl 208), .inr (.inl 209), .inr (.inl 210), .inl (.int 0), .inl (.int 0), .inl (.int 0)]),
  .inr (.long, 8, .inl (.long 0), []),
  .inr (.int, 8, .inl (.int 0), []),
  .inr (.int, 8, .inl (.int 0), []),
  .inr (.int, 8, .inl (.int 0), []),
  .inr (.int, 8, .inl (.int 0), []),
  .inr (.int, 8, .inl (.int 0), []),
  .inr (.int, 160, .inl (.int 0), []),
  .inl (9, [.inr (.inl 212), .inr (.inl 213), .inr (.inl 214), .inr (.inl 215), .inr (.inl 216), .inr (.inl 217), .inl (.int 0), .inl (.int 0)]),
  .inr (.int, 30, .inl (.int 0), []),
  .inr (.int, 30, .inl (.int 0), []),
  .inr (.int, 30, .inl (.int 0), []),
  .inr (.int, 30, .inl (.int 0), []),
  .inr (.int, 30, .inl (.int 0), []),
  .inr (.int, 30, .inl (.int 0), []),
  .inl (3, [.inr (.inl 219), .inr (.inl 220), .inr (.inl 221), .inr (.inl 222), .inr (.inl 223), .inr (.inl 224), .inr (.inl 229), .inr (.inl 237), .inl (.int 0), .inl (.int 0), .inl (.int 2), .inl (.int 4), .inl (.int 1), .inl (.int 0)]),
  .inr (.long, 10, .inl (.long 0), []),
  .inr (.int, 10, .inl (.int 0), []),
  .inr (.int, 10, .inl (.int 0), []),
  .inr (.int, 10, .inl (.int 0), []),
  .inr (.int, 10, .inl (.int 0), []),
  .inl (2, [.inr (.inl 225), .inr (.inl 226), .inr (.inl 227), .inr (.inl 228), .inl (.int 0), .inl (.int 0)]),
  .inr (.int, 10, .inl (.int 0), []),
  .inr (.int, 10, .inl (.int 0), []),
  .inr (.int, 10, .inl (.int 0), []),
  .inr (.int, 200, .inl (.int 0), []),
  .inl (0, [.inr (.inl 230), .inr (.inl 231), .inr (.inl 232), .inr (.inl 233), .inr (.inl 234), .inr (.inl 235), .inr (.inl 236), .inl (.int 0), .inl (.int 0), .inl (.int 0)]),
  .inr (.long, 8, .inl (.long 0), []),
  .inr (.int, 8, .inl (.int 0), []),
  .inr (.int, 8, .inl (.int 0), []),
  .inr (.int, 8, .inl (.int 0), []),
  .inr (.int, 8, .inl (.int 0), []),
  .inr (.int, 8, .inl (.int 0), []),
  .inr (.int, 160, .inl (.int 0), []),
  .inl (9, [.inr (.inl 238), .inr (.inl 239), .inr (.inl 240), .inr (.inl 241), .inr (.inl 242), .inr (.inl 243), .inl (.int 0), .inl (.int 0)]),
  .inr (.int, 30, .inl (.int 0), []),
  .inr (.int, 30, .inl (.int 0), []),
  .inr (.int, 30, .inl (.int 0), []),
  .inr (.int, 30, .inl (.int 0), []),
  .inr (.int, 30, .inl (.int 0), []),
  .inr (.int, 30, .inl (.int 0), []),
  .inl (3, [.inr (.inl 245), .inr (.inl 246), .inr (.inl 247), .inr (.inl 248), .inr (.inl 249), .inr (.inl 250), .inr (.inl 255), .inr (.inl 263), .inl (.int 0), .inl (.int 0), .inl (.int 2), .inl (.int 4), .inl (.int 1), .inl (.int 0)]),
  .inr (.long, 10, .inl (.long 0), []),
  .inr (.int, 10, .inl (.int 0), []),
  .inr (.int, 10, .inl (.int 0), []),
  .inr (.int, 10, .inl (.int 0), []),
  .inr (.int, 10, .inl (.int 0), []),
  .inl (2, [.inr (.inl 251), .inr (.inl 252), .inr (.inl 253), .inr (.inl 254), .inl (.int 0), .inl (.int 0)]),
  .inr (.int, 10, .inl (.int 0), []),
  .inr (.int, 10, .inl (.int 0), []),
  .inr (.int, 10, .inl (.int 0), []),
  .inr (.int, 200, .inl (.int 0), []),
  .inl (0, [.inr (.inl 256), .inr (.inl 257), .inr (.inl 258), .inr (.inl 259), .inr (.inl 260), .inr (.inl 261), .inr (.inl 262), .inl (.int 0), .inl (.int 0), .inl (.int 0)]),
  .inr (.long, 8, .inl (.long 0), []),
  .inr (.int, 8, .inl (.int 0), []),
  .inr (.int, 8, .inl (.int 0), []),
  .inr (.int, 8, .inl (.int 0), []),
  .inr (.int, 8, .inl (.int 0), []),
  .inr (.int, 8, .inl (.int 0), []),
  .inr (.int, 160, .inl (.int 0), []),
  .inl (9, [.inr (.inl 264), .inr (.inl 265), .inr (.inl 266), .inr (.inl 267), .inr (.inl 268), .inr (.inl 269), .inl (.int 0), .inl (.int 0)]),
  .inr (.int, 30, .inl (.int 0), []),
  .inr (.int, 30, .inl (.int 0), []),
  .inr (.int, 30, .inl (.int 0), []),
  .inr (.int, 30, .inl (.int 0), []),
  .inr (.int, 30, .inl (.int 0), []),
  .inr (.int, 30, .inl (.int 0), []),
  .inl (12, [.inr (.inl 271), .inr (.inl 272), .inl (.int 0), .inl (.long 0), .inl (.long 1), .inr (.inl 273), .inr (.inl 274), .inr (.inl 275), .inr (.inl 276), .inr (.inl 277), .inl (.int 0), .inl (.int 0), .inl (.int 0), .inl (.int 0), .inl (.int 0), .inl (.int 0), .inl (.int (-1)), .inl (.int (-1)), .inl (.int 0), .inl (.int 0), .inl (.int 0), .inr (.inl 278), .inl (.int 0), .inl (.int 0), .inr (.inl 279), .inl (.int 0), .inr (.inl 280), .inr (.inl 281), .inr (.inl 282), .inr (.inl 283), .inl (.int 0), .inr (.inl 284), .inr (.inl 285), .inr (.inl 286), .inr (.inl 287), .inr (.inl 288), .inl (.int 0), .inl (.int 0), .inr (.inl 289), .inr (.inl 290), .inr (.inl 291), .inl (.int 0), .inl (.int 0)]),
  .inr (.int, 5894, .inl (.int 0), [(6, .inl (.int (-1))), (4, .inl (.int 1)), (3, .inl (.int 4)), (2, .inl (.int 2))]),
  .inr (.long, 108, .inl (.long 0), []),
  .inr (.int, 4, .inl (.int 0), []),
  .inr (.int, 4, .inl (.int 0), [(3, .inl (.int (-1))), (2, .inl (.int (-1))), (1, .inl (.int (-1))), (0, .inl (.int (-1)))]),
  .inr (.long, 240, .inl (.long 0), []),
  .inr (.byte, 900, .inl (.int 0), []),
  .inr (.byte, 900, .inl (.int 0), []),
  .inr (.int, 3, .inl (.int 0), []),
  .inr (.int, 10, .inl (.int 0), []),
  .inr (.int, 4, .inl (.int 0), []),
  .inr (.int, 4, .inl (.int 0), []),
  .inr (.int, 4, .inl (.int 0), []),
  .inr (.int, 4, .inl (.int 0), []),
  .inr (.int, 256, .inl (.int 0), []),
  .inr (.int, 427, .inl (.int 0), []),
  .inr (.int, 10, .inl (.int 0), []),
  .inr (.long, 21, .inl (.long 0), []),
  .inr (.long, 21, .inl (.long 0), []),
  .inr (.int, 80, .inl (.int 0), []),
  .inr (.int, 5, .inl (.int 0), []),
  .inr (.int, 5, .inl (.int 0), [])]
def gk_env (lo hi : Int) : List rk_T := [(0, -2147483648, 2147483647), (0, -2147483648, 2147483647), (0, -2147483648, 2147483647), (0, -2147483648, 2147483647), (0, -2147483648, 2147483647), (0, -2147483648, 2147483647), (2, 0, 0), (0, lo, hi), (2, 0, 0)]
def gk_S16 (lo hi : Int) : rk_S := ([(2, .inr (.inl 270)), (1, .inr (.inl 0)), (0, .inr (.inr (.inl 6)))], [], gk_env lo hi, gk_hp, 292, 17714)
def gk_h126 : List rk_H := [.inl (11, [.inl (.int 0), .inl (.long 0), .inl (.long 1), .inr (.inl 1), .inr (.inl 6), .inr (.inl 7), .inr (.inl 8), .inr (.inl 9), .inr (.inl 12), .inr (.inl 13), .inr (.inl 15), .inr (.inl 41), .inr (.inl 67), .inl (.int 0), .inr (.inl 68), .inr (.inl 73), .inr (.inl 185), .inr (.inl 188), .inr (.inl 191), .inl (.int 0)]),
  .inr ((.array .long), 4, .inl .null, [(3, .inr (.inl 5)), (2, .inr (.inl 4)), (1, .inr (.inl 3)), (0, .inr (.inl 2))]),
  .inr (.long, 60, .inl (.long 0), []),
  .inr (.long, 60, .inl (.long 0), []),
  .inr (.long, 60, .inl (.long 0), []),
  .inr (.long, 60, .inl (.long 0), []),
  .inr (.int, 4, .inl (.int 0), []),
  .inr (.int, 4, .inl (.int 0), [(3, .inl (.int (-1))), (2, .inl (.int (-1))), (1, .inl (.int (-1))), (0, .inl (.int (-1)))]),
  .inr (.int, 20, .inl (.int 0), []),
  .inl (8, [.inr (.inl 10), .inr (.inl 11), .inl (.int 0), .inl (.int 0), .inl (.int 0), .inl (.int 0), .inl (.int 0), .inl (.int 0), .inl (.long 0), .inl (.int 0), .inl (.int (-1)), .inl (.int (-1))]),
  .inr (.byte, 900, .inl (.int 0), []),
  .inr (.long, 23, .inl (.long 0), [(0, .inl (.long 9317)), (1, .inl (.long 2262611)), (2, .inl (.long 20201029)), (3, .inl (.long 23609)), (4, .inl (.long 72983685)), (5, .inl (.long 773205170)), (6, .inl (.long 777297171)), (7, .inl (.long 52)), (8, .inl (.long 24627813)), (9, .inl (.long 278194)), (10, .inl (.long 73027762)), (11, .inl (.long 628164)), (12, .inl (.long 655)), (13, .inl (.long 643248)), (14, .inl (.long 6897268)), (15, .inl (.long 663607)), (16, .inl (.long 1497)), (17, .inl (.long 762030)), (18, .inl (.long 302)), (19, .inl (.long 23732)), (20, .inl (.long 409072)), (21, .inl (.long 5572)), (22, .inl (.long 643568))]),
  .inl (4, [.inr (.inl 9), .inl (.int 0)]),
  .inl (10, [.inr (.inl 9), .inr (.inl 14), .inl (.int 0)]),
  .inr (.int, 3, .inl (.int 0), []),
  .inl (3, [.inr (.inl 16), .inr (.inl 17), .inr (.inl 18), .inr (.inl 19), .inr (.inl 20), .inr (.inl 21), .inr (.inl 26), .inr (.inl 34), .inl (.int 0), .inl (.int 0), .inl (.int 2), .inl (.int 4), .inl (.int 1), .inl (.int 0)]),
  .inr (.long, 10, .inl (.long 0), []),
  .inr (.int, 10, .inl (.int 0), []),
  .inr (.int, 10, .inl (.int 0), []),
  .inr (.int, 10, .inl (.int 0), []),
  .inr (.int, 10, .inl (.int 0), []),
  .inl (2, [.inr (.inl 22), .inr (.inl 23), .inr (.inl 24), .inr (.inl 25), .inl (.int 0), .inl (.int 0)]),
  .inr (.int, 10, .inl (.int 0), []),
  .inr (.int, 10, .inl (.int 0), []),
  .inr (.int, 10, .inl (.int 0), []),
  .inr (.int, 200, .inl (.int 0), []),
  .inl (0, [.inr (.inl 27), .inr (.inl 28), .inr (.inl 29), .inr (.inl 30), .inr (.inl 31), .inr (.inl 32), .inr (.inl 33), .inl (.int 0), .inl (.int 0), .inl (.int 0)]),
  .inr (.long, 8, .inl (.long 0), []),
  .inr (.int, 8, .inl (.int 0), []),
  .inr (.int, 8, .inl (.int 0), []),
  .inr (.int, 8, .inl (.int 0), []),
  .inr (.int, 8, .inl (.int 0), []),
  .inr (.int, 8, .inl (.int 0), []),
  .inr (.int, 160, .inl (.int 0), []),
  .inl (9, [.inr (.inl 35), .inr (.inl 36), .inr (.inl 37), .inr (.inl 38), .inr (.inl 39), .inr (.inl 40), .inl (.int 0), .inl (.int 0)]),
  .inr (.int, 30, .inl (.int 0), []),
  .inr (.int, 30, .inl (.int 0), []),
  .inr (.int, 30, .inl (.int 0), []),
  .inr (.int, 30, .inl (.int 0), []),
  .inr (.int, 30, .inl (.int 0), []),
  .inr (.int, 30, .inl (.int 0), []),
  .inl (3, [.inr (.inl 42), .inr (.inl 43), .inr (.inl 44), .inr (.inl 45), .inr (.inl 46), .inr (.inl 47), .inr (.inl 52), .inr (.inl 60), .inl (.int 0), .inl (.int 0), .inl (.int 2), .inl (.int 4), .inl (.int 1), .inl (.int 0)]),
  .inr (.long, 10, .inl (.long 0), []),
  .inr (.int, 10, .inl (.int 0), []),
  .inr (.int, 10, .inl (.int 0), []),
  .inr (.int, 10, .inl (.int 0), []),
  .inr (.int, 10, .inl (.int 0), []),
  .inl (2, [.inr (.inl 48), .inr (.inl 49), .inr (.inl 50), .inr (.inl 51), .inl (.int 0), .inl (.int 0)]),
  .inr (.int, 10, .inl (.int 0), []),
  .inr (.int, 10, .inl (.int 0), []),
  .inr (.int, 10, .inl (.int 0), []),
  .inr (.int, 200, .inl (.int 0), []),
  .inl (0, [.inr (.inl 53), .inr (.inl 54), .inr (.inl 55), .inr (.inl 56), .inr (.inl 57), .inr (.inl 58), .inr (.inl 59), .inl (.int 0), .inl (.int 0), .inl (.int 0)]),
  .inr (.long, 8, .inl (.long 0), []),
  .inr (.int, 8, .inl (.int 0), []),
  .inr (.int, 8, .inl (.int 0), []),
  .inr (.int, 8, .inl (.int 0), []),
  .inr (.int, 8, .inl (.int 0), []),
  .inr (.int, 8, .inl (.int 0), []),
  .inr (.int, 160, .inl (.int 0), []),
  .inl (9, [.inr (.inl 61), .inr (.inl 62), .inr (.inl 63), .inr (.inl 64), .inr (.inl 65), .inr (.inl 66), .inl (.int 0), .inl (.int 0)]),
  .inr (.int, 30, .inl (.int 0), []),
  .inr (.int, 30, .inl (.int 0), []),
  .inr (.int, 30, .inl (.int 0), []),
  .inr (.int, 30, .inl (.int 0), []),
  .inr (.int, 30, .inl (.int 0), []),
  .inr (.int, 30, .inl (.int 0), []),
  .inr ((.object "GooseIce$Lake"), 3, .inl .null, [(2, .inr (.inl 244)), (1, .inr (.inl 218)), (0, .inr (.inl 192))]),
  .inl (6, [.inr (.inl 69), .inr (.inl 70), .inr (.inl 71), .inr (.inl 72), .inl (.int 0), .inl (.int 0)]),
  .inr (.int, 10, .inl (.int 0), []),
  .inr (.int, 11, .inl (.int 0), []),
  .inr (.int, 10, .inl (.int 0), []),
  .inr (.int, 1024, .inl (.int 0), []),
  .inl (7, [.inr (.inl 74), .inr (.inl 75), .inr (.inl 76), .inr (.inl 77), .inr (.inl 78), .inr (.inl 79), .inr (.inl 80), .inl (.int 0), .inl (.int 0), .inl (.int 0), .inl (.int 0)]),
  .inr ((.object "GooseIce$Lake"), 4, .inl .null, [(3, .inr (.inl 159)), (2, .inr (.inl 133)), (1, .inr (.inl 107)), (0, .inr (.inl 81))]),
  .inr (.int, 4, .inl (.int 0), []),
  .inr (.int, 4, .inl (.int 0), []),
  .inr (.int, 4, .inl (.int 0), []),
  .inr (.int, 4, .inl (.int 0), []),
  .inr (.int, 4, .inl (.int 0), []),
  .inr (.int, 12, .inl (.int 0), []),
  .inl (3, [.inr (.inl 82), .inr (.inl 83), .inr (.inl 84), .inr (.inl 85), .inr (.inl 86), .inr (.inl 87), .inr (.inl 92), .inr (.inl 100), .inl (.int 0), .inl (.int 0), .inl (.int 2), .inl (.int 4), .inl (.int 1), .inl (.int 0)]),
  .inr (.long, 10, .inl (.long 0), []),
  .inr (.int, 10, .inl (.int 0), []),
  .inr (.int, 10, .inl (.int 0), []),
  .inr (.int, 10, .inl (.int 0), []),
  .inr (.int, 10, .inl (.int 0), []),
  .inl (2, [.inr (.inl 88), .inr (.inl 89), .inr (.inl 90), .inr (.inl 91), .inl (.int 0), .inl (.int 0)]),
  .inr (.int, 10, .inl (.int 0), []),
  .inr (.int, 10, .inl (.int 0), []),
  .inr (.int, 10, .inl (.int 0), []),
  .inr (.int, 200, .inl (.int 0), []),
  .inl (0, [.inr (.inl 93), .inr (.inl 94), .inr (.inl 95), .inr (.inl 96), .inr (.inl 97), .inr (.inl 98), .inr (.inl 99), .inl (.int 0), .inl (.int 0), .inl (.int 0)]),
  .inr (.long, 8, .inl (.long 0), []),
  .inr (.int, 8, .inl (.int 0), []),
  .inr (.int, 8, .inl (.int 0), []),
  .inr (.int, 8, .inl (.int 0), []),
  .inr (.int, 8, .inl (.int 0), []),
  .inr (.int, 8, .inl (.int 0), []),
  .inr (.int, 160, .inl (.int 0), []),
  .inl (9, [.inr (.inl 101), .inr (.inl 102), .inr (.inl 103), .inr (.inl 104), .inr (.inl 105), .inr (.inl 106), .inl (.int 0), .inl (.int 0)]),
  .inr (.int, 30, .inl (.int 0), []),
  .inr (.int, 30, .inl (.int 0), []),
  .inr (.int, 30, .inl (.int 0), []),
  .inr (.int, 30, .inl (.int 0), []),
  .inr (.int, 30, .inl (.int 0), []),
  .inr (.int, 30, .inl (.int 0), []),
  .inl (3, [.inr (.inl 108), .inr (.inl 109), .inr (.inl 110), .inr (.inl 111), .inr (.inl 112), .inr (.inl 113), .inr (.inl 118), .inr (.inl 126), .inl (.int 0), .inl (.int 0), .inl (.int 2), .inl (.int 4), .inl (.int 1), .inl (.int 0)]),
  .inr (.long, 10, .inl (.long 0), []),
  .inr (.int, 10, .inl (.int 0), []),
  .inr (.int, 10, .inl (.int 0), []),
  .inr (.int, 10, .inl (.int 0), []),
  .inr (.int, 10, .inl (.int 0), []),
  .inl (2, [.inr (.inl 114), .inr (.inl 115), .inr (.inl 116), .inr (.inl 117), .inl (.int 0), .inl (.int 0)]),
  .inr (.int, 10, .inl (.int 0), []),
  .inr (.int, 10, .inl (.int 0), []),
  .inr (.int, 10, .inl (.int 0), []),
  .inr (.int, 200, .inl (.int 0), []),
  .inl (0, [.inr (.inl 119), .inr (.inl 120), .inr (.inl 121), .inr (.inl 122), .inr (.inl 123), .inr (.inl 124), .inr (.inl 125), .inl (.int 0), .inl (.int 0), .inl (.int 0)]),
  .inr (.long, 8, .inl (.long 0), []),
  .inr (.int, 8, .inl (.int 0), []),
  .inr (.int, 8, .inl (.int 0), []),
  .inr (.int, 8, .inl (.int 0), []),
  .inr (.int, 8, .inl (.int 0), []),
  .inr (.int, 8, .inl (.int 0), []),
  .inr (.int, 160, .inl (.int 0), []),
  .inl (9, [.inr (.inl 127), .inr (.inl 128), .inr (.inl 129), .inr (.inl 130), .inr (.inl 131), .inr (.inl 132), .inl (.int 0), .inl (.int 0)]),
  .inr (.int, 30, .inl (.int 0), []),
  .inr (.int, 30, .inl (.int 0), []),
  .inr (.int, 30, .inl (.int 0), []),
  .inr (.int, 30, .inl (.int 0), []),
  .inr (.int, 30, .inl (.int 0), []),
  .inr (.int, 30, .inl (.int 0), []),
  .inl (3, [.inr (.inl 134), .inr (.inl 135), .inr (.inl 136), .inr (.inl 137), .inr (.inl 138), .inr (.inl 139), .inr (.inl 144), .inr (.inl 152), .inl (.int 0), .inl (.int 0), .inl (.int 2), .inl (.int 4), .inl (.int 1), .inl (.int 0)]),
  .inr (.long, 10, .inl (.long 0), []),
  .inr (.int, 10, .inl (.int 0), []),
  .inr (.int, 10, .inl (.int 0), []),
  .inr (.int, 10, .inl (.int 0), []),
  .inr (.int, 10, .inl (.int 0), []),
  .inl (2, [.inr (.inl 140), .inr (.inl 141), .inr (.inl 142), .inr (.inl 143), .inl (.int 0), .inl (.int 0)]),
  .inr (.int, 10, .inl (.int 0), []),
  .inr (.int, 10, .inl (.int 0), []),
  .inr (.int, 10, .inl (.int 0), []),
  .inr (.int, 200, .inl (.int 0), []),
  .inl (0, [.inr (.inl 145), .inr (.inl 146), .inr (.inl 147), .inr (.inl 148), .inr (.inl 149), .inr (.inl 150), .inr (.inl 151), .inl (.int 0), .inl (.int 0), .inl (.int 0)]),
  .inr (.long, 8, .inl (.long 0), []),
  .inr (.int, 8, .inl (.int 0), []),
  .inr (.int, 8, .inl (.int 0), []),
  .inr (.int, 8, .inl (.int 0), []),
  .inr (.int, 8, .inl (.int 0), []),
  .inr (.int, 8, .inl (.int 0), []),
  .inr (.int, 160, .inl (.int 0), []),
  .inl (9, [.inr (.inl 153), .inr (.inl 154), .inr (.inl 155), .inr (.inl 156), .inr (.inl 157), .inr (.inl 158), .inl (.int 0), .inl (.int 0)]),
  .inr (.int, 30, .inl (.int 0), []),
  .inr (.int, 30, .inl (.int 0), []),
  .inr (.int, 30, .inl (.int 0), []),
  .inr (.int, 30, .inl (.int 0), []),
  .inr (.int, 30, .inl (.int 0), []),
  .inr (.int, 30, .inl (.int 0), []),
  .inl (3, [.inr (.inl 160), .inr (.inl 161), .inr (.inl 162), .inr (.inl 163), .inr (.inl 164), .inr (.inl 165), .inr (.inl 170), .inr (.inl 178), .inl (.int 0), .inl (.int 0), .inl (.int 2), .inl (.int 4), .inl (.int 1), .inl (.int 0)]),
  .inr (.long, 10, .inl (.long 0), []),
  .inr (.int, 10, .inl (.int 0), []),
  .inr (.int, 10, .inl (.int 0), []),
  .inr (.int, 10, .inl (.int 0), []),
  .inr (.int, 10, .inl (.int 0), []),
  .inl (2, [.inr (.inl 166), .inr (.inl 167), .inr (.inl 168), .inr (.inl 169), .inl (.int 0), .inl (.int 0)]),
  .inr (.int, 10, .inl (.int 0), []),
  .inr (.int, 10, .inl (.int 0), []),
  .inr (.int, 10, .inl (.int 0), []),
  .inr (.int, 200, .inl (.int 0), []),
  .inl (0, [.inr (.inl 171), .inr (.inl 172), .inr (.inl 173), .inr (.inl 174), .inr (.inl 175), .inr (.inl 176), .inr (.inl 177), .inl (.int 0), .inl (.int 0), .inl (.int 0)]),
  .inr (.long, 8, .inl (.long 0), []),
  .inr (.int, 8, .inl (.int 0), []),
  .inr (.int, 8, .inl (.int 0), []),
  .inr (.int, 8, .inl (.int 0), []),
  .inr (.int, 8, .inl (.int 0), []),
  .inr (.int, 8, .inl (.int 0), []),
  .inr (.int, 160, .inl (.int 0), []),
  .inl (9, [.inr (.inl 179), .inr (.inl 180), .inr (.inl 181), .inr (.inl 182), .inr (.inl 183), .inr (.inl 184), .inl (.int 0), .inl (.int 0)]),
  .inr (.int, 30, .inl (.int 0), []),
  .inr (.int, 30, .inl (.int 0), []),
  .inr (.int, 30, .inl (.int 0), []),
  .inr (.int, 30, .inl (.int 0), []),
  .inr (.int, 30, .inl (.int 0), []),
  .inr (.int, 30, .inl (.int 0), []),
  .inl (1, [.inr (.inl 186), .inr (.inl 187), .inl (.int 0)]),
  .inr (.long, 21, .inl (.long 0), []),
  .inr (.long, 21, .inl (.long 0), []),
  .inl (5, [.inr (.inl 68), .inr (.inl 189), .inr (.inl 190), .inl (.int 0), .inl (.int 0), .inl (.int 0), .inl (.int 0), .inl (.int 0), .inl (.int 0), .inl (.int 0), .inl (.int 0)]),
  .inr (.int, 3, .inl (.int 0), []),
  .inr (.int, 3, .inl (.int 0), []),
  .inr (.int, 5, .inl (.int 0), []),
  .inl (3, [.inr (.inl 193), .inr (.inl 194), .inr (.inl 195), .inr (.inl 196), .inr (.inl 197), .inr (.inl 198), .inr (.inl 203), .inr (.inl 211), .inl (.int 0), .inl (.int 0), .inl (.int 2), .inl (.int 4), .inl (.int 1), .inl (.int 0)]),
  .inr (.long, 10, .inl (.long 0), []),
  .inr (.int, 10, .inl (.int 0), []),
  .inr (.int, 10, .inl (.int 0), []),
  .inr (.int, 10, .inl (.int 0), []),
  .inr (.int, 10, .inl (.int 0), []),
  .inl (2, [.inr (.inl 199), .inr (.inl 200), .inr (.inl 201), .inr (.inl 202), .inl (.int 0), .inl (.int 0)]),
  .inr (.int, 10, .inl (.int 0), []),
  .inr (.int, 10, .inl (.int 0), []),
  .inr (.int, 10, .inl (.int 0), []),
  .inr (.int, 200, .inl (.int 0), []),
  .inl (0, [.inr (.inl 204), .inr (.inl 205), .inr (.inl 206), .inr (.inl 207), .inr (.inl 208), .inr (.inl 209), .inr (.inl 210), .inl (.int 0), .inl (.int 0), .inl (.int 0)]),
  .inr (.long, 8, .inl (.long 0), []),
  .inr (.int, 8, .inl (.int 0), []),
  .inr (.int, 8, .inl (.int 0), []),
  .inr (.int, 8, .inl (.int 0), []),
  .inr (.int, 8, .inl (.int 0), []),
  .inr (.int, 8, .inl (.int 0), []),
  .inr (.int, 160, .inl (.int 0), []),
  .inl (9, [.inr (.inl 212), .inr (.inl 213), .inr (.inl 214), .inr (.inl 215), .inr (.inl 216), .inr (.inl 217), .inl (.int 0), .inl (.int 0)]),
  .inr (.int, 30, .inl (.int 0), []),
  .inr (.int, 30, .inl (.int 0), []),
  .inr (.int, 30, .inl (.int 0), []),
  .inr (.int, 30, .inl (.int 0), []),
  .inr (.int, 30, .inl (.int 0), []),
  .inr (.int, 30, .inl (.int 0), []),
  .inl (3, [.inr (.inl 219), .inr (.inl 220), .inr (.inl 221), .inr (.inl 222), .inr (.inl 223), .inr (.inl 224), .inr (.inl 229), .inr (.inl 237), .inl (.int 0), .inl (.int 0), .inl (.int 2), .inl (.int 4), .inl (.int 1), .inl (.int 0)]),
  .inr (.long, 10, .inl (.long 0), []),
  .inr (.int, 10, .inl (.int 0), []),
  .inr (.int, 10, .inl (.int 0), []),
  .inr (.int, 10, .inl (.int 0), []),
  .inr (.int, 10, .inl (.int 0), []),
  .inl (2, [.inr (.inl 225), .inr (.inl 226), .inr (.inl 227), .inr (.inl 228), .inl (.int 0), .inl (.int 0)]),
  .inr (.int, 10, .inl (.int 0), []),
  .inr (.int, 10, .inl (.int 0), []),
  .inr (.int, 10, .inl (.int 0), []),
  .inr (.int, 200, .inl (.int 0), []),
  .inl (0, [.inr (.inl 230), .inr (.inl 231), .inr (.inl 232), .inr (.inl 233), .inr (.inl 234), .inr (.inl 235), .inr (.inl 236), .inl (.int 0), .inl (.int 0), .inl (.int 0)]),
  .inr (.long, 8, .inl (.long 0), []),
  .inr (.int, 8, .inl (.int 0), []),
  .inr (.int, 8, .inl (.int 0), []),
  .inr (.int, 8, .inl (.int 0), []),
  .inr (.int, 8, .inl (.int 0), []),
  .inr (.int, 8, .inl (.int 0), []),
  .inr (.int, 160, .inl (.int 0), []),
  .inl (9, [.inr (.inl 238), .inr (.inl 239), .inr (.inl 240), .inr (.inl 241), .inr (.inl 242), .inr (.inl 243), .inl (.int 0), .inl (.int 0)]),
  .inr (.int, 30, .inl (.int 0), []),
  .inr (.int, 30, .inl (.int 0), []),
  .inr (.int, 30, .inl (.int 0), []),
  .inr (.int, 30, .inl (.int 0), []),
  .inr (.int, 30, .inl (.int 0), []),
  .inr (.int, 30, .inl (.int 0), []),
  .inl (3, [.inr (.inl 245), .inr (.inl 246), .inr (.inl 247), .inr (.inl 248), .inr (.inl 249), .inr (.inl 250), .inr (.inl 255), .inr (.inl 263), .inl (.int 0), .inl (.int 0), .inl (.int 2), .inl (.int 4), .inl (.int 1), .inl (.int 0)]),
  .inr (.long, 10, .inl (.long 0), []),
  .inr (.int, 10, .inl (.int 0), []),
  .inr (.int, 10, .inl (.int 0), []),
  .inr (.int, 10, .inl (.int 0), []),
  .inr (.int, 10, .inl (.int 0), []),
  .inl (2, [.inr (.inl 251), .inr (.inl 252), .inr (.inl 253), .inr (.inl 254), .inl (.int 0), .inl (.int 0)]),
  .inr (.int, 10, .inl (.int 0), []),
  .inr (.int, 10, .inl (.int 0), []),
  .inr (.int, 10, .inl (.int 0), []),
  .inr (.int, 200, .inl (.int 0), []),
  .inl (0, [.inr (.inl 256), .inr (.inl 257), .inr (.inl 258), .inr (.inl 259), .inr (.inl 260), .inr (.inl 261), .inr (.inl 262), .inl (.int 0), .inl (.int 0), .inl (.int 0)]),
  .inr (.long, 8, .inl (.long 0), []),
  .inr (.int, 8, .inl (.int 0), []),
  .inr (.int, 8, .inl (.int 0), []),
  .inr (.int, 8, .inl (.int 0), []),
  .inr (.int, 8, .inl (.int 0), []),
  .inr (.int, 8, .inl (.int 0), []),
  .inr (.int, 160, .inl (.int 0), []),
  .inl (9, [.inr (.inl 264), .inr (.inl 265), .inr (.inl 266), .inr (.inl 267), .inr (.inl 268), .inr (.inl 269), .inl (.int 0), .inl (.int 0)]),
  .inr (.int, 30, .inl (.int 0), []),
  .inr (.int, 30, .inl (.int 0), []),
  .inr (.int, 30, .inl (.int 0), []),
  .inr (.int, 30, .inl (.int 0), []),
  .inr (.int, 30, .inl (.int 0), []),
  .inr (.int, 30, .inl (.int 0), [])]
def gk_X126 : rk_O := (269, 8747, [(none, gk_env 0 3072, gk_h126, 269, 8747)])
def gk_h201 : List rk_H := [.inl (12, [.inr (.inl 1), .inr (.inl 2), .inl (.int 0), .inl (.long 0), .inl (.long 1), .inr (.inl 3), .inr (.inl 4), .inr (.inl 5), .inr (.inl 6), .inr (.inl 7), .inl (.int 0), .inl (.int 0), .inl (.int 0), .inl (.int 0), .inl (.int 0), .inl (.int 0), .inl (.int (-1)), .inl (.int (-1)), .inl (.int 0), .inl (.int 0), .inl (.int 0), .inr (.inl 8), .inl (.int 0), .inl (.int 0), .inr (.inl 9), .inl (.int 0), .inr (.inl 10), .inr (.inl 11), .inr (.inl 12), .inr (.inl 13), .inl (.int 0), .inr (.inl 14), .inr (.inl 15), .inr (.inl 16), .inr (.inl 17), .inr (.inl 18), .inl (.int 0), .inl (.int 0), .inr (.inl 19), .inr (.inl 20), .inr (.inl 21), .inl (.int 0), .inl (.int 0)]),
  .inr (.int, 5894, .inl (.int 0), [(6, .inl (.int (-1))), (4, .inl (.int 1)), (3, .inl (.int 4)), (2, .inl (.int 2))]),
  .inr (.long, 108, .inl (.long 0), []),
  .inr (.int, 4, .inl (.int 0), []),
  .inr (.int, 4, .inl (.int 0), [(3, .inl (.int (-1))), (2, .inl (.int (-1))), (1, .inl (.int (-1))), (0, .inl (.int (-1)))]),
  .inr (.long, 240, .inl (.long 0), []),
  .inr (.byte, 900, .inl (.int 0), []),
  .inr (.byte, 900, .inl (.int 0), []),
  .inr (.int, 3, .inl (.int 0), []),
  .inr (.int, 10, .inl (.int 0), []),
  .inr (.int, 4, .inl (.int 0), []),
  .inr (.int, 4, .inl (.int 0), []),
  .inr (.int, 4, .inl (.int 0), []),
  .inr (.int, 4, .inl (.int 0), []),
  .inr (.int, 256, .inl (.int 0), []),
  .inr (.int, 427, .inl (.int 0), []),
  .inr (.int, 10, .inl (.int 0), []),
  .inr (.long, 21, .inl (.long 0), []),
  .inr (.long, 21, .inl (.long 0), []),
  .inr (.int, 80, .inl (.int 0), []),
  .inr (.int, 5, .inl (.int 0), []),
  .inr (.int, 5, .inl (.int 0), [])]
def gk_X201 : rk_O := (21, 8904, [(none, gk_env 0 3072, gk_h201, 21, 8904)])
def gk_eq1 (a b : List (Nat × rk_V)) : Bool := decide (a = b)
def gk_eq2 (a b : List rk_V) : Bool := decide (a = b)
def gk_eq3 (a b : List rk_T) : Bool := decide (a = b)
def gk_eqD (a b : rk_D) : Bool := decide (a.1 = b.1) && (decide (a.2.1 = b.2.1) && (decide (a.2.2.1 = b.2.2.1) && gk_eq1 a.2.2.2 b.2.2.2))
def gk_eqH : rk_H → rk_H → Bool
  | .inl a, .inl b => decide (a.1 = b.1) && gk_eq2 a.2 b.2
  | .inr a, .inr b => gk_eqD a b
  | _, _ => false
def gk_eqL : List rk_H → List rk_H → Bool
  | [], [] => true
  | a :: l, b :: k => gk_eqH a b && gk_eqL l k
  | _, _ => false
def gk_eqS (a b : rk_S) : Bool := gk_eq1 a.1 b.1 && (gk_eq2 a.2.1 b.2.1 && (gk_eq3 a.2.2.1 b.2.2.1 && (gk_eqL a.2.2.2.1 b.2.2.2.1 && (decide (a.2.2.2.2.1 = b.2.2.2.2.1) && decide (a.2.2.2.2.2 = b.2.2.2.2.2)))))
theorem gk_eqD_ok {a b : rk_D} (h : gk_eqD a b = true) : a = b := by
  simp only [gk_eqD, gk_eq1, Bool.and_eq_true, decide_eq_true_eq] at h
  exact Prod.ext h.1 (Prod.ext h.2.1 (Prod.ext h.2.2.1 h.2.2.2))
theorem gk_eqH_ok {a b : rk_H} (h : gk_eqH a b = true) : a = b := by
  rcases a with a | a <;> rcases b with b | b
  · simp only [gk_eqH, gk_eq2, Bool.and_eq_true, decide_eq_true_eq] at h
    exact congrArg Sum.inl (Prod.ext h.1 h.2)
  · cases h
  · cases h
  · exact congrArg Sum.inr (gk_eqD_ok h)
theorem gk_eqL_ok : ∀ {a b : List rk_H}, gk_eqL a b = true → a = b := by
  intro a
  induction a with
  | nil => intro b h; cases b with
    | nil => rfl
    | cons y k => cases h
  | cons x l ih => intro b h; cases b with
    | nil => cases h
    | cons y k =>
      simp only [gk_eqL, Bool.and_eq_true] at h
      rw [gk_eqH_ok h.1, ih h.2]
theorem gk_eqS_ok {a b : rk_S} (h : gk_eqS a b = true) : a = b := by
  simp only [gk_eqS, gk_eq1, gk_eq2, gk_eq3, Bool.and_eq_true, decide_eq_true_eq] at h
  exact Prod.ext h.1 (Prod.ext h.2.1 (Prod.ext h.2.2.1 (Prod.ext (gk_eqL_ok h.2.2.2.1) (Prod.ext h.2.2.2.2.1 h.2.2.2.2.2))))
def gk_stop (at_ : Nat) (S : rk_S) : rk_Ext := fun pc ins st => if pc = at_ then (if gk_eqS st S = true then some [] else none) else rk_lawx pc ins st
def gk_eqX (a b : rk_X) : Bool := decide (a.1 = b.1) && (gk_eq3 a.2.1 b.2.1 && (gk_eqL a.2.2.1 b.2.2.1 && (decide (a.2.2.2.1 = b.2.2.2.1) && decide (a.2.2.2.2 = b.2.2.2.2))))
def gk_eqO (a : Option rk_O) (b : rk_O) : Bool := match a, b with
  | some (c, n, [x]), (c', n', [y]) => decide (c = c') && (decide (n = n') && gk_eqX x y)
  | _, _ => false
theorem gk_eqX_ok {a b : rk_X} (h : gk_eqX a b = true) : a = b := by
  simp only [gk_eqX, gk_eq3, Bool.and_eq_true, decide_eq_true_eq] at h
  exact Prod.ext h.1 (Prod.ext h.2.1 (Prod.ext (gk_eqL_ok h.2.2.1) (Prod.ext h.2.2.2.1 h.2.2.2.2)))
theorem gk_eqO_ok {a : Option rk_O} {b : rk_O} (h : gk_eqO a b = true) : a = some b := by
  unfold gk_eqO at h
  split at h
  · simp only [Bool.and_eq_true, decide_eq_true_eq] at h
    rw [h.1, h.2.1, gk_eqX_ok h.2.2]
  · cases h
def gk_newc (ci : Nat) : rk_H := .inl (ci, (gk_fty.getD ci []).map (fun t => .inl (defaultValue t.1)))
def gk_good1 (o : Option rk_O) : Bool := match o with
  | some o => decide (o.1 ≤ 600000) && (decide (o.2.1 ≤ 7302250) && o.2.2.all (fun x => decide (x.1 = some (.inl (.int 1)))))
  | none => false
def gk_call : Nat → List rk_V → List rk_T → List rk_H → Option rk_O := rk_run gk_P gk_fty gk_cln gk_mci gk_sum 30000 40
def gk_ctor (F ci : Nat) (X : rk_O) (f : Nat) (as : List rk_V) (env : List rk_T) (hp : List rk_H) : Option rk_O := if f = F ∧ gk_eq2 as [.inr (.inl 0)] = true ∧ gk_eq3 env (gk_env 0 3072) = true ∧ gk_eqL hp [gk_newc ci] = true then some X else none
def gk_call2 (f : Nat) (as : List rk_V) (env : List rk_T) (hp : List rk_H) : Option rk_O := match as with
  | .inr (.inl j) :: _ => if f = 126 then gk_ctor 126 11 gk_X126 f as env hp else if f = 201 then rk_suf (gk_ctor 201 12 gk_X201) 270 f as env hp else if j = 270 then rk_suf gk_call 270 f as env hp else rk_pfx gk_call 270 f as env hp
  | _ => none
def gk_go (ext : rk_Ext) (l : List (Nat × Instr × Nat)) (q : Nat × rk_S) : Bool := gk_good1 (rk_loop gk_fty gk_cln gk_mci gk_call2 ext (gk_lM l) 30000 q)
def gk_q0 (lo hi : Int) : Nat × rk_S := (0, ([(0, .inr (.inr (.inl 6)))], [], gk_env lo hi, [], 0, 0))
end MH15_1
section MH15_2
/-! ===== the one text of the class: what is known of it; the JDK's length and charAt over it ===== -/
def sg_X (a v : Nat) (A : Nat → Prop) (U : State) (H : Heap) : Prop := va_O "java/lang/String" a A U H ∧ va_OF "java/lang/String" "coder" "B" (.int 0) a A U H ∧ va_OF "java/lang/String" "value" "[B" (.ref v) a A U H ∧ va_T .byte v sg_n (fun j => .int (sg_b.getD j 0)) A U H ∧ va_Z "java/lang/String" "COMPACT_STRINGS" "Z" (.int 1) A U H ∧ va_Zq "jdk/internal/util/Preconditions" "SIOOBE_FORMATTER" "Ljava/util/function/BiFunction;" A U H
theorem sg_X.moved {a v : Nat} {A : Nat → Prop} {u U : State} {H : Heap} (hvm : u.vm.Alike U.vm) (h : sg_X a v A u H) : sg_X a v A U H := ⟨va_O.moved hvm h.1, va_OF.moved hvm h.2.1, va_OF.moved hvm h.2.2.1, va_T.moved hvm h.2.2.2.1, va_Z.moved hvm h.2.2.2.2.1, va_Zq.moved hvm h.2.2.2.2.2⟩
theorem sg_X.kept {a v : Nat} {A : Nat → Prop} {U : State} {H H1 : Heap} (h : sg_X a v A U H) (hq : ∀ a : Nat, a < H.size → ¬ A a → H1[a]? = H[a]?) : sg_X a v A U H1 := ⟨h.1.kept hq, h.2.1.kept hq, h.2.2.1.kept hq, h.2.2.2.1.kept hq, h.2.2.2.2.1.kept hq, h.2.2.2.2.2.kept hq⟩
theorem sg_X.narrow {a v : Nat} {A B : Nat → Prop} {U : State} {H : Heap} (h : sg_X a v A U H) (hAB : ∀ q, B q → A q) : sg_X a v B U H := ⟨h.1.narrow hAB, h.2.1.narrow hAB, h.2.2.1.narrow hAB, h.2.2.2.1.narrow hAB, h.2.2.2.2.1.narrow hAB, h.2.2.2.2.2.narrow hAB⟩
theorem sg_pre {a v : Nat} {A : Nat → Prop} {s U : State} {H : Heap} {locs : List Loc} (h : sg_X a v A s s.heap) (hS : va_S A s.heap H locs) (hA : ∀ q, s.heap.size ≤ q → A q) (hU : U.heap = H) (hW : s.WarmedH U.vm) : sg_X a v (fun q => H.size ≤ q) U U.heap := by
  rw [hU]
  exact ((h.kept hS.2.1).narrow (fun q hq => hA q (Nat.le_trans hS.1 hq))).moved hW.alike
def sg_Pc (av : List Value) (a v sz : Nat) : Array Value → State → Prop := fun w U => w = av.toArray ∧ U.heap.size = sz ∧ sg_X a v (fun q => sz ≤ q) U U.heap
theorem sg_blind (av : List Value) (a v sz : Nat) : FrameBlind (sg_Pc av a v sz) := fun w U g mk q => ⟨q.1, q.2.1, sg_X.moved (u := U) (U := U.calling g mk w) (Vm.Alike.refl U.vm) q.2.2⟩
abbrev sg_Q (r : Int32) (sz : Nat) : Array Value → State → Outcome → State → Prop := va_Qi (S := Unit) (fun r' _ => r' = r) (fun _ _ => True) (fun q => sz ≤ q)
abbrev sg_Qv (sz : Nat) : Array Value → State → Outcome → State → Prop := va_Qv (S := Unit) (fun _ => True) (fun _ _ => True) (fun q => sz ≤ q)
theorem sg_d377_0 : decode gk_N377.2.2 0 = .ok (.aload_n 0, 1) := by decide +kernel
theorem sg_d377_1 : decode gk_N377.2.2 1 = .ok (.getfield 9, 3) := by decide +kernel
theorem sg_d377_4 : decode gk_N377.2.2 4 = .ok (.arraylength, 1) := by decide +kernel
theorem sg_d377_5 : decode gk_N377.2.2 5 = .ok (.aload_n 0, 1) := by decide +kernel
theorem sg_d377_6 : decode gk_N377.2.2 6 = .ok (.invokevirtual 335, 3) := by decide +kernel
theorem sg_d377_9 : decode gk_N377.2.2 9 = .ok (.ishr, 1) := by decide +kernel
theorem sg_d377_10 : decode gk_N377.2.2 10 = .ok (.ireturn, 1) := by decide +kernel
theorem sg_d378_0 : decode gk_N378.2.2 0 = .ok (.aload_n 0, 1) := by decide +kernel
theorem sg_d378_1 : decode gk_N378.2.2 1 = .ok (.invokevirtual 492, 3) := by decide +kernel
theorem sg_d378_4 : decode gk_N378.2.2 4 = .ok (.ifCond .eq 12, 3) := by decide +kernel
theorem sg_d378_7 : decode gk_N378.2.2 7 = .ok (.aload_n 0, 1) := by decide +kernel
theorem sg_d378_8 : decode gk_N378.2.2 8 = .ok (.getfield 9, 3) := by decide +kernel
theorem sg_d378_11 : decode gk_N378.2.2 11 = .ok (.iload_n 1, 1) := by decide +kernel
theorem sg_d378_12 : decode gk_N378.2.2 12 = .ok (.invokestatic 495, 3) := by decide +kernel
theorem sg_d378_15 : decode gk_N378.2.2 15 = .ok (.ireturn, 1) := by decide +kernel
theorem sg_d378_16 : decode gk_N378.2.2 16 = .ok (.aload_n 0, 1) := by decide +kernel
theorem sg_d378_17 : decode gk_N378.2.2 17 = .ok (.getfield 9, 3) := by decide +kernel
theorem sg_d378_20 : decode gk_N378.2.2 20 = .ok (.iload_n 1, 1) := by decide +kernel
theorem sg_d378_21 : decode gk_N378.2.2 21 = .ok (.invokestatic 498, 3) := by decide +kernel
theorem sg_d378_24 : decode gk_N378.2.2 24 = .ok (.ireturn, 1) := by decide +kernel
theorem sg_d379_0 : decode gk_N379.2.2 0 = .ok (.getstatic 38, 3) := by decide +kernel
theorem sg_d379_3 : decode gk_N379.2.2 3 = .ok (.ifCond .eq 10, 3) := by decide +kernel
theorem sg_d379_6 : decode gk_N379.2.2 6 = .ok (.aload_n 0, 1) := by decide +kernel
theorem sg_d379_7 : decode gk_N379.2.2 7 = .ok (.getfield 15, 3) := by decide +kernel
theorem sg_d379_10 : decode gk_N379.2.2 10 = .ok (.goto 4, 3) := by decide +kernel
theorem sg_d379_13 : decode gk_N379.2.2 13 = .ok (.iconst 1, 1) := by decide +kernel
theorem sg_d379_14 : decode gk_N379.2.2 14 = .ok (.ireturn, 1) := by decide +kernel
theorem sg_d380_0 : decode gk_N380.2.2 0 = .ok (.getstatic 38, 3) := by decide +kernel
theorem sg_d380_3 : decode gk_N380.2.2 3 = .ok (.ifCond .eq 14, 3) := by decide +kernel
theorem sg_d380_6 : decode gk_N380.2.2 6 = .ok (.aload_n 0, 1) := by decide +kernel
theorem sg_d380_7 : decode gk_N380.2.2 7 = .ok (.getfield 15, 3) := by decide +kernel
theorem sg_d380_10 : decode gk_N380.2.2 10 = .ok (.ifCond .ne 7, 3) := by decide +kernel
theorem sg_d380_13 : decode gk_N380.2.2 13 = .ok (.iconst 1, 1) := by decide +kernel
theorem sg_d380_14 : decode gk_N380.2.2 14 = .ok (.goto 4, 3) := by decide +kernel
theorem sg_d380_17 : decode gk_N380.2.2 17 = .ok (.iconst 0, 1) := by decide +kernel
theorem sg_d380_18 : decode gk_N380.2.2 18 = .ok (.ireturn, 1) := by decide +kernel
theorem sg_d381_0 : decode gk_N381.2.2 0 = .ok (.iload_n 0, 1) := by decide +kernel
theorem sg_d381_1 : decode gk_N381.2.2 1 = .ok (.iload_n 1, 1) := by decide +kernel
theorem sg_d381_2 : decode gk_N381.2.2 2 = .ok (.getstatic 1053, 3) := by decide +kernel
theorem sg_d381_5 : decode gk_N381.2.2 5 = .ok (.invokestatic 1059, 3) := by decide +kernel
theorem sg_d381_8 : decode gk_N381.2.2 8 = .ok (.pop, 1) := by decide +kernel
theorem sg_d381_9 : decode gk_N381.2.2 9 = .ok (.return_, 1) := by decide +kernel
theorem sg_d382_0 : decode gk_N382.2.2 0 = .ok (.iload_n 1, 1) := by decide +kernel
theorem sg_d382_1 : decode gk_N382.2.2 1 = .ok (.aload_n 0, 1) := by decide +kernel
theorem sg_d382_2 : decode gk_N382.2.2 2 = .ok (.arraylength, 1) := by decide +kernel
theorem sg_d382_3 : decode gk_N382.2.2 3 = .ok (.invokestatic 9, 3) := by decide +kernel
theorem sg_d382_6 : decode gk_N382.2.2 6 = .ok (.aload_n 0, 1) := by decide +kernel
theorem sg_d382_7 : decode gk_N382.2.2 7 = .ok (.iload_n 1, 1) := by decide +kernel
theorem sg_d382_8 : decode gk_N382.2.2 8 = .ok (.baload, 1) := by decide +kernel
theorem sg_d382_9 : decode gk_N382.2.2 9 = .ok (.sipush 255, 3) := by decide +kernel
theorem sg_d382_12 : decode gk_N382.2.2 12 = .ok (.iand, 1) := by decide +kernel
theorem sg_d382_13 : decode gk_N382.2.2 13 = .ok (.i2c, 1) := by decide +kernel
theorem sg_d382_14 : decode gk_N382.2.2 14 = .ok (.ireturn, 1) := by decide +kernel
theorem sg_d389_0 : decode gk_N389.2.2 0 = .ok (.iload_n 0, 1) := by decide +kernel
theorem sg_d389_1 : decode gk_N389.2.2 1 = .ok (.ifCond .lt 8, 3) := by decide +kernel
theorem sg_d389_4 : decode gk_N389.2.2 4 = .ok (.iload_n 0, 1) := by decide +kernel
theorem sg_d389_5 : decode gk_N389.2.2 5 = .ok (.iload_n 1, 1) := by decide +kernel
theorem sg_d389_6 : decode gk_N389.2.2 6 = .ok (.if_icmp .lt 10, 3) := by decide +kernel
theorem sg_d389_9 : decode gk_N389.2.2 9 = .ok (.aload_n 2, 1) := by decide +kernel
theorem sg_d389_10 : decode gk_N389.2.2 10 = .ok (.iload_n 0, 1) := by decide +kernel
theorem sg_d389_11 : decode gk_N389.2.2 11 = .ok (.iload_n 1, 1) := by decide +kernel
theorem sg_d389_12 : decode gk_N389.2.2 12 = .ok (.invokestatic 95, 3) := by decide +kernel
theorem sg_d389_15 : decode gk_N389.2.2 15 = .ok (.athrow, 1) := by decide +kernel
theorem sg_d389_16 : decode gk_N389.2.2 16 = .ok (.iload_n 0, 1) := by decide +kernel
theorem sg_d389_17 : decode gk_N389.2.2 17 = .ok (.ireturn, 1) := by decide +kernel
set_option maxHeartbeats 1000000 in
theorem sg_coder (l : Launch) (a v sz : Nat) : Met l gk_y_379 (Jvm.Cond.code gk_y_379 gk_N379.2.2 1 (some .byte) :: gk_tbl) { frames := 1, cells := 0, slots := 0, locals := 40 } (sg_Pc [.ref a] a v sz) (sg_Q 0 sz) 0 0 (fun q => sz ≤ q) := by
  refine Met.ofW (cc := gk_N379.2.2) (maxL := 1) (ret := (some .byte)) (by decide +kernel) rfl ?_
  intro p e s m args below meth c s₁ B hml hv
  obtain ⟨rfl, hsz, hX⟩ := hv
  have hx := B.exec; have hb := B.bytes; have hr := B.returns; have hlocks := B.notSynchronized
  have hts : ∀ w ∈ gk_tbl, w.before (List.toArray [.ref a]) s = true := fun w hw => atoms_spec (ws := Jvm.Cond.code gk_y_379 gk_N379.2.2 1 (some .byte) :: gk_tbl) B.pre w (List.mem_cons_of_mem _ hw)
  have hown : s.vm.findClass "java/lang/String" = some m.cls := findClass_of_methodNamed B.named
  subst hsz
  have hS : va_S (fun q => s.heap.size ≤ q) s.heap s.heap [] := va_S.rf
  have hA : ∀ q : Nat, s.heap.size ≤ q → s.heap.size ≤ q := fun _ h => h
  have hX0 := hX
  obtain ⟨hO, hC, hV, hT, hZ, hF⟩ := hX
  have hl := lv_entry [.ref a] (n := 1) (Nat.le_of_ble_eq_true rfl)
  rw [lg_entry_eq]
  generalize (lg_sl [.ref a] ++ List.replicate (1 - (lg_sl [.ref a]).length) Slot.unset).toArray = ls at hl ⊢
  have hl : lv_has ls 1 [(0, .ref a)] := hl
  refine va_gets hx hb hZ hS hown (hts _ (rk_mt 267 (by decide +kernel) rfl)) (fun _ h => h) sg_d379_0 ?_
  refine lv_if_eq (tgt := 13) hx hb sg_d379_3 rfl (fun h => absurd h (by decide)) (fun _ => ?_)
  refine lv_aload_n hx hb sg_d379_6 rfl (lv_at hl 0 rfl) ?_
  refine vk_getf hx hb hC hS hown (hts _ (rk_mt 2477 (by decide +kernel) rfl)) (fun _ h => h) sg_d379_7 ?_
  refine lv_goto (tgt := 14) hx hb sg_d379_10 rfl ?_
  exact W.zret (ty := .byte) (v := 0) hx hb hr (by decide) (fun t ht hW => ⟨⟨_, (), rfl, rfl, trivial⟩, hS.F ht⟩) hS.2.2 sg_d379_14
set_option maxHeartbeats 1000000 in
theorem sg_isLatin1 (l : Launch) (a v sz : Nat) : Met l gk_y_380 (Jvm.Cond.code gk_y_380 gk_N380.2.2 1 (some .boolean) :: gk_tbl) { frames := 1, cells := 0, slots := 0, locals := 40 } (sg_Pc [.ref a] a v sz) (sg_Q 1 sz) 0 0 (fun q => sz ≤ q) := by
  refine Met.ofW (cc := gk_N380.2.2) (maxL := 1) (ret := (some .boolean)) (by decide +kernel) rfl ?_
  intro p e s m args below meth c s₁ B hml hv
  obtain ⟨rfl, hsz, hX⟩ := hv
  have hx := B.exec; have hb := B.bytes; have hr := B.returns; have hlocks := B.notSynchronized
  have hts : ∀ w ∈ gk_tbl, w.before (List.toArray [.ref a]) s = true := fun w hw => atoms_spec (ws := Jvm.Cond.code gk_y_380 gk_N380.2.2 1 (some .boolean) :: gk_tbl) B.pre w (List.mem_cons_of_mem _ hw)
  have hown : s.vm.findClass "java/lang/String" = some m.cls := findClass_of_methodNamed B.named
  subst hsz
  have hS : va_S (fun q => s.heap.size ≤ q) s.heap s.heap [] := va_S.rf
  have hA : ∀ q : Nat, s.heap.size ≤ q → s.heap.size ≤ q := fun _ h => h
  have hX0 := hX
  obtain ⟨hO, hC, hV, hT, hZ, hF⟩ := hX
  have hl := lv_entry [.ref a] (n := 1) (Nat.le_of_ble_eq_true rfl)
  rw [lg_entry_eq]
  generalize (lg_sl [.ref a] ++ List.replicate (1 - (lg_sl [.ref a]).length) Slot.unset).toArray = ls at hl ⊢
  have hl : lv_has ls 1 [(0, .ref a)] := hl
  refine va_gets hx hb hZ hS hown (hts _ (rk_mt 267 (by decide +kernel) rfl)) (fun _ h => h) sg_d380_0 ?_
  refine lv_if_eq (tgt := 17) hx hb sg_d380_3 rfl (fun h => absurd h (by decide)) (fun _ => ?_)
  refine lv_aload_n hx hb sg_d380_6 rfl (lv_at hl 0 rfl) ?_
  refine vk_getf hx hb hC hS hown (hts _ (rk_mt 2477 (by decide +kernel) rfl)) (fun _ h => h) sg_d380_7 ?_
  refine lv_if_ne (tgt := 17) hx hb sg_d380_10 rfl (fun h => absurd rfl h) (fun _ => ?_)
  refine lv_iconst (v := 1) hx hb sg_d380_13 rfl ?_
  refine lv_goto (tgt := 18) hx hb sg_d380_14 rfl ?_
  exact W.zret (ty := .boolean) (v := 1) hx hb hr (by decide) (fun t ht hW => ⟨⟨_, (), rfl, rfl, trivial⟩, hS.F ht⟩) hS.2.2 sg_d380_18
set_option maxHeartbeats 1000000 in
theorem sg_length (l : Launch) (a v sz : Nat) : Met l gk_y_377 (Jvm.Cond.code gk_y_377 gk_N377.2.2 1 (some .int) :: gk_tbl) { frames := 2, cells := 0, slots := 0, locals := 80 } (sg_Pc [.ref a] a v sz) (sg_Q (Int32.ofNat sg_n) sz) 0 0 (fun q => sz ≤ q) := by
  refine Met.ofW (cc := gk_N377.2.2) (maxL := 1) (ret := (some .int)) (by decide +kernel) rfl ?_
  intro p e s m args below meth c s₁ B hml hv
  obtain ⟨rfl, hsz, hX⟩ := hv
  have hx := B.exec; have hb := B.bytes; have hr := B.returns; have hlocks := B.notSynchronized
  have hts : ∀ w ∈ gk_tbl, w.before (List.toArray [.ref a]) s = true := fun w hw => atoms_spec (ws := Jvm.Cond.code gk_y_377 gk_N377.2.2 1 (some .int) :: gk_tbl) B.pre w (List.mem_cons_of_mem _ hw)
  have hown : s.vm.findClass "java/lang/String" = some m.cls := findClass_of_methodNamed B.named
  subst hsz
  have hS : va_S (fun q => s.heap.size ≤ q) s.heap s.heap [] := va_S.rf
  have hA : ∀ q : Nat, s.heap.size ≤ q → s.heap.size ≤ q := fun _ h => h
  have hX0 := hX
  obtain ⟨hO, hC, hV, hT, hZ, hF⟩ := hX
  have hl := lv_entry [.ref a] (n := 1) (Nat.le_of_ble_eq_true rfl)
  rw [lg_entry_eq]
  generalize (lg_sl [.ref a] ++ List.replicate (1 - (lg_sl [.ref a]).length) Slot.unset).toArray = ls at hl ⊢
  have hl : lv_has ls 1 [(0, .ref a)] := hl
  refine lv_aload_n hx hb sg_d377_0 rfl (lv_at hl 0 rfl) ?_
  refine vk_getf hx hb hV hS hown (hts _ (rk_mt 2476 (by decide +kernel) rfl)) (fun _ h => h) sg_d377_1 ?_
  refine va_tlen hx hb hT hS rfl sg_d377_4 ?_
  refine lv_aload_n hx hb sg_d377_5 rfl (lv_at hl 0 rfl) ?_
  refine va_calli (va_runV (C := "java/lang/String") (As := []) (rest := [.int (Int32.ofNat sg_n)]) ⟨hx, hb, hml, hown, hts⟩ (sg_coder l a v s.heap.size) ⟨callB_of 0 hts (rk_good gk_good (rk_mt 266 (by decide +kernel) rfl)) rfl rfl rfl (hts _ (rk_mt 223 (by decide +kernel) rfl)) (hts _ (rk_mt 263 (by decide +kernel) rfl)) ⟨(by decide +kernel), (by decide +kernel), (by decide +kernel)⟩ ⟨Nat.le_of_ble_eq_true rfl, Nat.le_of_ble_eq_true rfl⟩, hts _ (rk_mt 264 (by decide +kernel) rfl), hts _ (rk_mt 265 (by decide +kernel) rfl)⟩ ⟨sg_blind _ _ _ _, (by obtain ⟨cell, h1, h2, h3, -⟩ := hO.kept hS.2.1; exact ⟨cell, h1, h2, h3⟩), fun U hU hW => ⟨rfl, by rw [hU], sg_pre hX0 hS hA hU hW⟩⟩ rfl rfl hl.1 rfl (lv_room (Nat.le_of_ble_eq_true rfl)) sg_d377_6 ⟨Nat.zero_le _, Nat.zero_le _⟩) hS (fun q h1 h2 => absurd h2 (by omega)) (fun q h => Nat.le_trans hS.1 h) (fun r0 u t H1 locs1 ht hvm hw hB hz1 hk1 hS => ?_)
  subst hw
  refine lv_ishr hx hb sg_d377_9 ?_
  rw [show (Int32.ofNat sg_n >>> ((0 : Int32) &&& 31)) = Int32.ofNat sg_n from by decide +kernel]
  exact W.iret (v := Int32.ofNat sg_n) hx hb hr (fun t ht hW => ⟨⟨_, (), rfl, rfl, trivial⟩, hS.F ht⟩) hS.2.2 sg_d377_10
set_option maxHeartbeats 1000000 in
theorem sg_pcheck (l : Launch) (a v sz : Nat) (i n : Int32) (x : Value) (h0 : ¬ i < 0) (h1 : i < n) (hx0 : x.category = 1) : Met l gk_y_389 (Jvm.Cond.code gk_y_389 gk_N389.2.2 3 (some .int) :: gk_tbl) { frames := 1, cells := 0, slots := 0, locals := 40 } (sg_Pc [.int i, .int n, x] a v sz) (sg_Q i sz) 0 0 (fun q => sz ≤ q) := by
  refine Met.ofW (cc := gk_N389.2.2) (maxL := 3) (ret := (some .int)) (by decide +kernel) rfl ?_
  intro p e s m args below meth c s₁ B hml hv
  obtain ⟨rfl, hsz, hX⟩ := hv
  have hx := B.exec; have hb := B.bytes; have hr := B.returns; have hlocks := B.notSynchronized
  have hts : ∀ w ∈ gk_tbl, w.before (List.toArray [.int i, .int n, x]) s = true := fun w hw => atoms_spec (ws := Jvm.Cond.code gk_y_389 gk_N389.2.2 3 (some .int) :: gk_tbl) B.pre w (List.mem_cons_of_mem _ hw)
  have hown : s.vm.findClass "jdk/internal/util/Preconditions" = some m.cls := findClass_of_methodNamed B.named
  subst hsz
  have hS : va_S (fun q => s.heap.size ≤ q) s.heap s.heap [] := va_S.rf
  have hA : ∀ q : Nat, s.heap.size ≤ q → s.heap.size ≤ q := fun _ h => h
  have hX0 := hX
  obtain ⟨hO, hC, hV, hT, hZ, hF⟩ := hX
  have hl := lv_entry [.int i, .int n, x] (n := 3) (by rw [rk_lgsl]; show (1 : Nat) + (1 + (x.category + 0)) ≤ 3; rw [hx0]; decide)
  rw [lg_entry_eq]
  generalize (lg_sl [.int i, .int n, x] ++ List.replicate (3 - (lg_sl [.int i, .int n, x]).length) Slot.unset).toArray = ls at hl ⊢
  have hl : lv_has ls 3 [(0, .int i), (1, .int n), (2, x)] := hl
  refine lv_iload_n hx hb sg_d389_0 rfl (lv_at hl 0 rfl) ?_
  refine lv_if_lt (tgt := 9) hx hb sg_d389_1 rfl (fun h => absurd h h0) (fun _ => ?_)
  refine lv_iload_n hx hb sg_d389_4 rfl (lv_at hl 0 rfl) ?_
  refine lv_iload_n hx hb sg_d389_5 rfl (lv_at hl 1 rfl) ?_
  refine lv_icmp_lt (tgt := 16) hx hb sg_d389_6 rfl (fun _ => ?_) (fun h => absurd h1 h)
  refine lv_iload_n hx hb sg_d389_16 rfl (lv_at hl 0 rfl) ?_
  exact W.iret (v := i) hx hb hr (fun t ht hW => ⟨⟨_, (), rfl, rfl, trivial⟩, hS.F ht⟩) hS.2.2 sg_d389_17
set_option maxHeartbeats 1000000 in
theorem sg_check (l : Launch) (a v sz : Nat) (i n : Int32) (h0 : ¬ i < 0) (h1 : i < n) : Met l gk_y_381 (Jvm.Cond.code gk_y_381 gk_N381.2.2 2 none :: gk_tbl) { frames := 2, cells := 0, slots := 0, locals := 80 } (sg_Pc [.int i, .int n] a v sz) (sg_Qv sz) 0 0 (fun q => sz ≤ q) := by
  refine Met.ofW (cc := gk_N381.2.2) (maxL := 2) (ret := none) (by decide +kernel) rfl ?_
  intro p e s m args below meth c s₁ B hml hv
  obtain ⟨rfl, hsz, hX⟩ := hv
  have hx := B.exec; have hb := B.bytes; have hr := B.returns; have hlocks := B.notSynchronized
  have hts : ∀ w ∈ gk_tbl, w.before (List.toArray [.int i, .int n]) s = true := fun w hw => atoms_spec (ws := Jvm.Cond.code gk_y_381 gk_N381.2.2 2 none :: gk_tbl) B.pre w (List.mem_cons_of_mem _ hw)
  have hown : s.vm.findClass "java/lang/String" = some m.cls := findClass_of_methodNamed B.named
  subst hsz
  have hS : va_S (fun q => s.heap.size ≤ q) s.heap s.heap [] := va_S.rf
  have hA : ∀ q : Nat, s.heap.size ≤ q → s.heap.size ≤ q := fun _ h => h
  have hX0 := hX
  obtain ⟨hO, hC, hV, hT, hZ, hF⟩ := hX
  have hl := lv_entry [.int i, .int n] (n := 2) (Nat.le_of_ble_eq_true rfl)
  rw [lg_entry_eq]
  generalize (lg_sl [.int i, .int n] ++ List.replicate (2 - (lg_sl [.int i, .int n]).length) Slot.unset).toArray = ls at hl ⊢
  have hl : lv_has ls 2 [(0, .int i), (1, .int n)] := hl
  refine lv_iload_n hx hb sg_d381_0 rfl (lv_at hl 0 rfl) ?_
  refine lv_iload_n hx hb sg_d381_1 rfl (lv_at hl 1 rfl) ?_
  obtain ⟨x, hxc, hFx⟩ : ∃ x : Value, x.category = 1 ∧ va_Z "jdk/internal/util/Preconditions" "SIOOBE_FORMATTER" "Ljava/util/function/BiFunction;" x (fun q => s.heap.size ≤ q) s s.heap := by
    rcases hF with h | ⟨t, h⟩
    · exact ⟨_, rfl, h⟩
    · exact ⟨_, rfl, h⟩
  refine va_gets hx hb hFx hS hown (hts _ (rk_mt 283 (by decide +kernel) rfl)) (fun _ h => h) sg_d381_2 ?_
  refine va_calli (va_runS (As := [.int i, .int n, x]) (rest := []) ⟨hx, hb, hml, hown, hts⟩ (sg_pcheck l a v s.heap.size i n x h0 h1 hxc) ⟨callB_of 3 hts (rk_good gk_good (rk_mt 287 (by decide +kernel) rfl)) rfl rfl rfl (hts _ (rk_mt 225 (by decide +kernel) rfl)) (hts _ (rk_mt 285 (by decide +kernel) rfl)) ⟨(by decide +kernel), (by decide +kernel), (by decide +kernel)⟩ ⟨Nat.le_of_ble_eq_true rfl, Nat.le_of_ble_eq_true rfl⟩, hts _ (rk_mt 286 (by decide +kernel) rfl)⟩ ⟨sg_blind _ _ _ _, fun U hU hW => ⟨rfl, by rw [hU], sg_pre hX0 hS hA hU hW⟩⟩ rfl rfl hl.1 rfl (lv_room (Nat.le_of_ble_eq_true rfl)) sg_d381_5 ⟨Nat.zero_le _, Nat.zero_le _⟩) hS (fun q h1 h2 => absurd h2 (by omega)) (fun q h => Nat.le_trans hS.1 h) (fun r0 u t H1 locs1 ht hvm hw hB hz1 hk1 hS => ?_)
  subst hw
  refine lv_pop hx hb sg_d381_8 rfl ?_
  exact W.vret hx hb hr (fun t ht hW => ⟨⟨(), rfl, trivial, trivial⟩, hS.F ht⟩) hS.2.2 sg_d381_9
set_option maxHeartbeats 1000000 in
theorem sg_lchar (l : Launch) (a v sz : Nat) (k : Nat) (hk : k < sg_n) : Met l gk_y_382 (Jvm.Cond.code gk_y_382 gk_N382.2.2 2 (some .char) :: gk_tbl) { frames := 3, cells := 0, slots := 0, locals := 120 } (sg_Pc [.ref v, .int (nI k)] a v sz) (sg_Q (sg_b.getD k 0) sz) 0 0 (fun q => sz ≤ q) := by
  refine Met.ofW (cc := gk_N382.2.2) (maxL := 2) (ret := (some .char)) (by decide +kernel) rfl ?_
  intro p e s m args below meth c s₁ B hml hv
  obtain ⟨rfl, hsz, hX⟩ := hv
  have hx := B.exec; have hb := B.bytes; have hr := B.returns; have hlocks := B.notSynchronized
  have hts : ∀ w ∈ gk_tbl, w.before (List.toArray [.ref v, .int (nI k)]) s = true := fun w hw => atoms_spec (ws := Jvm.Cond.code gk_y_382 gk_N382.2.2 2 (some .char) :: gk_tbl) B.pre w (List.mem_cons_of_mem _ hw)
  have hown : s.vm.findClass "java/lang/StringLatin1" = some m.cls := findClass_of_methodNamed B.named
  subst hsz
  have hS : va_S (fun q => s.heap.size ≤ q) s.heap s.heap [] := va_S.rf
  have hA : ∀ q : Nat, s.heap.size ≤ q → s.heap.size ≤ q := fun _ h => h
  have hX0 := hX
  obtain ⟨hO, hC, hV, hT, hZ, hF⟩ := hX
  have hl := lv_entry [.ref v, .int (nI k)] (n := 2) (Nat.le_of_ble_eq_true rfl)
  rw [lg_entry_eq]
  generalize (lg_sl [.ref v, .int (nI k)] ++ List.replicate (2 - (lg_sl [.ref v, .int (nI k)]).length) Slot.unset).toArray = ls at hl ⊢
  have hl : lv_has ls 2 [(0, .ref v), (1, .int (nI k))] := hl
  refine lv_iload_n hx hb sg_d382_0 rfl (lv_at hl 1 rfl) ?_
  refine lv_aload_n hx hb sg_d382_1 rfl (lv_at hl 0 rfl) ?_
  refine va_tlen hx hb hT hS rfl sg_d382_2 ?_
  have hn : sg_n < 2 ^ 31 := by decide
  refine va_callv (va_runS (As := [.int (nI k), .int (nI sg_n)]) (rest := []) ⟨hx, hb, hml, hown, hts⟩ (sg_check l a v s.heap.size (nI k) (nI sg_n) (nI_pos (by omega)) (nI_lt hk hn)) ⟨callB_of 2 hts (rk_good gk_good (rk_mt 282 (by decide +kernel) rfl)) rfl rfl rfl (hts _ (rk_mt 223 (by decide +kernel) rfl)) (hts _ (rk_mt 280 (by decide +kernel) rfl)) ⟨(by decide +kernel), (by decide +kernel), (by decide +kernel)⟩ ⟨Nat.le_of_ble_eq_true rfl, Nat.le_of_ble_eq_true rfl⟩, hts _ (rk_mt 281 (by decide +kernel) rfl)⟩ ⟨sg_blind _ _ _ _, fun U hU hW => ⟨rfl, by rw [hU], sg_pre hX0 hS hA hU hW⟩⟩ rfl rfl hl.1 rfl (lv_room (Nat.le_of_ble_eq_true rfl)) sg_d382_3 ⟨Nat.zero_le _, Nat.zero_le _⟩) hS (fun q h1 h2 => absurd h2 (by omega)) (fun q h => Nat.le_trans hS.1 h) (fun u t H1 locs1 ht hvm hw hB hz1 hk1 hS => ?_)
  refine lv_aload_n hx hb sg_d382_6 rfl (lv_at hl 0 rfl) ?_
  refine lv_iload_n hx hb sg_d382_7 rfl (lv_at hl 1 rfl) ?_
  refine va_tb (v := .int (sg_b.getD k 0)) hx hb hT hS (nI_in hk hn) (by rw [nI_clamp (by omega)]) sg_d382_8 ?_
  refine lv_sipush (v := 255) hx hb sg_d382_9 (by decide) ?_
  have hall : (sg_b.getD k 0) &&& 255 = sg_b.getD k 0 ∧ ((sg_b.getD k 0).toUInt32 % 65536).toInt32 = sg_b.getD k 0 ∧ narrow .char (.int (sg_b.getD k 0)) = .int (sg_b.getD k 0) := by
    have h9 := List.all_eq_true.mp (show (List.range sg_n).all (fun k => decide ((sg_b.getD k 0) &&& 255 = sg_b.getD k 0 ∧ ((sg_b.getD k 0).toUInt32 % 65536).toInt32 = sg_b.getD k 0 ∧ narrow .char (.int (sg_b.getD k 0)) = .int (sg_b.getD k 0))) = true from by decide +kernel) k (List.mem_range.mpr hk)
    exact of_decide_eq_true h9
  refine lv_iand hx hb sg_d382_12 ?_
  rw [hall.1]
  refine lv_i2c hx hb sg_d382_13 hall.2.1 ?_
  exact W.zret (ty := .char) (v := sg_b.getD k 0) hx hb hr hall.2.2 (fun t ht hW => ⟨⟨_, (), rfl, rfl, trivial⟩, hS.F ht⟩) hS.2.2 sg_d382_14
set_option maxHeartbeats 1000000 in
theorem sg_charAt (l : Launch) (a v sz : Nat) (k : Nat) (hk : k < sg_n) : Met l gk_y_378 (Jvm.Cond.code gk_y_378 gk_N378.2.2 2 (some .char) :: gk_tbl) { frames := 4, cells := 0, slots := 0, locals := 160 } (sg_Pc [.ref a, .int (nI k)] a v sz) (sg_Q (sg_b.getD k 0) sz) 0 0 (fun q => sz ≤ q) := by
  refine Met.ofW (cc := gk_N378.2.2) (maxL := 2) (ret := (some .char)) (by decide +kernel) rfl ?_
  intro p e s m args below meth c s₁ B hml hv
  obtain ⟨rfl, hsz, hX⟩ := hv
  have hx := B.exec; have hb := B.bytes; have hr := B.returns; have hlocks := B.notSynchronized
  have hts : ∀ w ∈ gk_tbl, w.before (List.toArray [.ref a, .int (nI k)]) s = true := fun w hw => atoms_spec (ws := Jvm.Cond.code gk_y_378 gk_N378.2.2 2 (some .char) :: gk_tbl) B.pre w (List.mem_cons_of_mem _ hw)
  have hown : s.vm.findClass "java/lang/String" = some m.cls := findClass_of_methodNamed B.named
  subst hsz
  have hS : va_S (fun q => s.heap.size ≤ q) s.heap s.heap [] := va_S.rf
  have hA : ∀ q : Nat, s.heap.size ≤ q → s.heap.size ≤ q := fun _ h => h
  have hX0 := hX
  obtain ⟨hO, hC, hV, hT, hZ, hF⟩ := hX
  have hl := lv_entry [.ref a, .int (nI k)] (n := 2) (Nat.le_of_ble_eq_true rfl)
  rw [lg_entry_eq]
  generalize (lg_sl [.ref a, .int (nI k)] ++ List.replicate (2 - (lg_sl [.ref a, .int (nI k)]).length) Slot.unset).toArray = ls at hl ⊢
  have hl : lv_has ls 2 [(0, .ref a), (1, .int (nI k))] := hl
  refine lv_aload_n hx hb sg_d378_0 rfl (lv_at hl 0 rfl) ?_
  refine va_calli (va_runV (C := "java/lang/String") (As := []) (rest := []) ⟨hx, hb, hml, hown, hts⟩ (sg_isLatin1 l a v s.heap.size) ⟨callB_of 0 hts (rk_good gk_good (rk_mt 276 (by decide +kernel) rfl)) rfl rfl rfl (hts _ (rk_mt 223 (by decide +kernel) rfl)) (hts _ (rk_mt 273 (by decide +kernel) rfl)) ⟨(by decide +kernel), (by decide +kernel), (by decide +kernel)⟩ ⟨Nat.le_of_ble_eq_true rfl, Nat.le_of_ble_eq_true rfl⟩, hts _ (rk_mt 274 (by decide +kernel) rfl), hts _ (rk_mt 275 (by decide +kernel) rfl)⟩ ⟨sg_blind _ _ _ _, (by obtain ⟨cell, h1, h2, h3, -⟩ := hO.kept hS.2.1; exact ⟨cell, h1, h2, h3⟩), fun U hU hW => ⟨rfl, by rw [hU], sg_pre hX0 hS hA hU hW⟩⟩ rfl rfl hl.1 rfl (lv_room (Nat.le_of_ble_eq_true rfl)) sg_d378_1 ⟨Nat.zero_le _, Nat.zero_le _⟩) hS (fun q h1 h2 => absurd h2 (by omega)) (fun q h => Nat.le_trans hS.1 h) (fun r0 u t H1 locs1 ht hvm hw hB hz1 hk1 hS => ?_)
  subst hw
  refine lv_if_eq (tgt := 16) hx hb sg_d378_4 rfl (fun h => absurd h (by decide)) (fun _ => ?_)
  refine lv_aload_n hx hb sg_d378_7 rfl (lv_at hl 0 rfl) ?_
  refine vk_getf hx hb hV hS hown (hts _ (rk_mt 2476 (by decide +kernel) rfl)) (fun _ h => h) sg_d378_8 ?_
  refine lv_iload_n hx hb sg_d378_11 rfl (lv_at hl 1 rfl) ?_
  refine va_calli (va_runS (As := [.ref v, .int (nI k)]) (rest := []) ⟨hx, hb, hml, hown, hts⟩ (sg_lchar l a v H1.size k hk) ⟨callB_of 2 hts (rk_good gk_good (rk_mt 279 (by decide +kernel) rfl)) rfl rfl rfl (hts _ (rk_mt 224 (by decide +kernel) rfl)) (hts _ (rk_mt 277 (by decide +kernel) rfl)) ⟨(by decide +kernel), (by decide +kernel), (by decide +kernel)⟩ ⟨Nat.le_of_ble_eq_true rfl, Nat.le_of_ble_eq_true rfl⟩, hts _ (rk_mt 278 (by decide +kernel) rfl)⟩ ⟨sg_blind _ _ _ _, fun U hU hW => ⟨rfl, by rw [hU], sg_pre hX0 hS hA hU hW⟩⟩ rfl rfl hl.1 rfl (lv_room (Nat.le_of_ble_eq_true rfl)) sg_d378_12 ⟨Nat.zero_le _, Nat.zero_le _⟩) hS (fun q h1 h2 => absurd h2 (by omega)) (fun q h => Nat.le_trans hS.1 h) (fun r0 u t H1 locs1 ht hvm hw hB hz1 hk1 hS => ?_)
  subst hw
  have hn9 : narrow .char (.int (sg_b.getD k 0)) = .int (sg_b.getD k 0) := of_decide_eq_true (List.all_eq_true.mp (show (List.range sg_n).all (fun k => decide (narrow .char (.int (sg_b.getD k 0)) = .int (sg_b.getD k 0))) = true from by decide +kernel) k (List.mem_range.mpr hk))
  exact W.zret (ty := .char) (v := sg_b.getD k 0) hx hb hr hn9 (fun t ht hW => ⟨⟨_, (), rfl, rfl, trivial⟩, hS.F ht⟩) hS.2.2 sg_d378_15
end MH15_2
section MH15_3
/-! ===== the model's table of trials ===== -/
def tg_acc (k m : Nat) : Nat → Nat
  | 0 => 1000000
  | x + 1 => min (tg_acc k m x) (1 + max (tg (k - 1) x) (tg k (m - 1 - x)))
theorem tg_c0 {k : Nat} (hk : k < 7) : tg k 0 = 0 := of_decide_eq_true (List.all_eq_true.mp (show (List.range 7).all (fun k => decide (tg k 0 = 0)) = true from by decide +kernel) k (List.mem_range.mpr hk))
theorem tg_c1 {m : Nat} (hm : m < 61) (h : m ≠ 0) : tg 0 m = 1000000 := of_decide_eq_true (List.all_eq_true.mp (show (List.range 61).all (fun m => decide (m ≠ 0 → tg 0 m = 1000000)) = true from by decide +kernel) m (List.mem_range.mpr hm)) h
theorem tg_c3 {k m : Nat} (hk : k < 7) (hm : m < 61) : tg k m ≤ 1000000 := of_decide_eq_true (List.all_eq_true.mp (List.all_eq_true.mp (show (List.range 7).all (fun k => (List.range 61).all (fun m => decide (tg k m ≤ 1000000))) = true from by decide +kernel) k (List.mem_range.mpr hk)) m (List.mem_range.mpr hm))
/-- the least over a row, by rows: the one below and its own turned round -/
def tg_fold (p q : List Nat) : Nat := (p.zip q).foldl (fun a z => min a (1 + max z.1 z.2)) 1000000
theorem tg_fold_acc (k m : Nat) : ∀ x : Nat, tg_acc k m x = ((List.range x).map (fun i => (tg (k - 1) i, tg k (m - 1 - i)))).foldl (fun a z => min a (1 + max z.1 z.2)) 1000000 := by
  intro x
  induction x with
  | zero => rfl
  | succ x ih => rw [List.range_succ, List.map_append, List.foldl_append, ← ih]; rfl
theorem tg_c2 {k m : Nat} (hk : k < 7) (hk0 : k ≠ 0) (hm : m < 61) (hm0 : m ≠ 0) : tg_acc k m m = tg k m := by
  have h := of_decide_eq_true (List.all_eq_true.mp (List.all_eq_true.mp (show (List.range 7).all (fun k => (List.range 61).all (fun m => decide (k ≠ 0 → m ≠ 0 → tg_acc k m m = tg k m))) = true from by decide +kernel) k (List.mem_range.mpr hk)) m (List.mem_range.mpr hm))
  exact h hk0 hm0
theorem tg_b {k m : Nat} : ∀ x : Nat, tg_acc k m x ≤ 1000000 := by
  intro x
  induction x with
  | zero => exact Nat.le_refl _
  | succ x ih => exact Nat.le_trans (Nat.min_le_left _ _) ih
theorem tg_mul (x y : Nat) : nI x * nI y = nI (x * y) := (Int32.ofNat_mul x y).symm
theorem tg_sub {x y : Nat} (h : y ≤ x) : nI x - nI y = nI (x - y) := by
  have e : nI x = nI (x - y) + nI y := by rw [nI_add, Nat.sub_add_cancel h]
  rw [e, Int32.add_sub_cancel]
theorem tg_max {x y : Nat} (hx : x < 2 ^ 31) (hy : y < 2 ^ 31) : (if nI x < nI y then nI y else nI x) = nI (max x y) := by
  by_cases h : x < y
  · rw [if_pos (nI_lt h hy), Nat.max_eq_right (Nat.le_of_lt h)]
  · rw [if_neg (nI_nlt (by omega) hx), Nat.max_eq_left (by omega)]
theorem tg_min {x y : Nat} (hx : x < 2 ^ 31) (hy : y < 2 ^ 31) : (if nI y < nI x then nI y else nI x) = nI (min x y) := by
  by_cases h : y < x
  · rw [if_pos (nI_lt h hx), Nat.min_eq_right (Nat.le_of_lt h)]
  · rw [if_neg (nI_nlt (by omega) hy), Nat.min_eq_left (by omega)]
theorem tg_in {i : Nat} (h : i < 427) : vp_in (nI i) 427 := nI_in h (by decide)
theorem tg_d344_0 : decode gk_N344.2.2 0 = .ok (.iconst 0, 1) := by decide +kernel
theorem tg_d344_1 : decode gk_N344.2.2 1 = .ok (.istore_n 3, 1) := by decide +kernel
theorem tg_d344_2 : decode gk_N344.2.2 2 = .ok (.iload_n 3, 1) := by decide +kernel
theorem tg_d344_3 : decode gk_N344.2.2 3 = .ok (.iload_n 2, 1) := by decide +kernel
theorem tg_d344_4 : decode gk_N344.2.2 4 = .ok (.if_icmp .gt 104, 3) := by decide +kernel
theorem tg_d344_7 : decode gk_N344.2.2 7 = .ok (.iconst 0, 1) := by decide +kernel
theorem tg_d344_8 : decode gk_N344.2.2 8 = .ok (.istore 4, 2) := by decide +kernel
theorem tg_d344_10 : decode gk_N344.2.2 10 = .ok (.iload 4, 2) := by decide +kernel
theorem tg_d344_12 : decode gk_N344.2.2 12 = .ok (.iload_n 1, 1) := by decide +kernel
theorem tg_d344_13 : decode gk_N344.2.2 13 = .ok (.if_icmp .gt 89, 3) := by decide +kernel
theorem tg_d344_16 : decode gk_N344.2.2 16 = .ok (.aload_n 0, 1) := by decide +kernel
theorem tg_d344_17 : decode gk_N344.2.2 17 = .ok (.getfield 65, 3) := by decide +kernel
theorem tg_d344_20 : decode gk_N344.2.2 20 = .ok (.bipush 61, 2) := by decide +kernel
theorem tg_d344_22 : decode gk_N344.2.2 22 = .ok (.iload_n 3, 1) := by decide +kernel
theorem tg_d344_23 : decode gk_N344.2.2 23 = .ok (.imul, 1) := by decide +kernel
theorem tg_d344_24 : decode gk_N344.2.2 24 = .ok (.iload 4, 2) := by decide +kernel
theorem tg_d344_26 : decode gk_N344.2.2 26 = .ok (.iadd, 1) := by decide +kernel
theorem tg_d344_27 : decode gk_N344.2.2 27 = .ok (.iload 4, 2) := by decide +kernel
theorem tg_d344_29 : decode gk_N344.2.2 29 = .ok (.ifCond .ne 7, 3) := by decide +kernel
theorem tg_d344_32 : decode gk_N344.2.2 32 = .ok (.iconst 0, 1) := by decide +kernel
theorem tg_d344_33 : decode gk_N344.2.2 33 = .ok (.goto 6, 3) := by decide +kernel
theorem tg_d344_36 : decode gk_N344.2.2 36 = .ok (.ldc_w 363, 3) := by decide +kernel
theorem tg_d344_39 : decode gk_N344.2.2 39 = .ok (.iastore, 1) := by decide +kernel
theorem tg_d344_40 : decode gk_N344.2.2 40 = .ok (.iconst 1, 1) := by decide +kernel
theorem tg_d344_41 : decode gk_N344.2.2 41 = .ok (.istore 5, 2) := by decide +kernel
theorem tg_d344_43 : decode gk_N344.2.2 43 = .ok (.iload 5, 2) := by decide +kernel
theorem tg_d344_45 : decode gk_N344.2.2 45 = .ok (.iload 4, 2) := by decide +kernel
theorem tg_d344_47 : decode gk_N344.2.2 47 = .ok (.if_icmp .gt 49, 3) := by decide +kernel
theorem tg_d344_50 : decode gk_N344.2.2 50 = .ok (.iload_n 3, 1) := by decide +kernel
theorem tg_d344_51 : decode gk_N344.2.2 51 = .ok (.ifCond .le 45, 3) := by decide +kernel
theorem tg_d344_54 : decode gk_N344.2.2 54 = .ok (.aload_n 0, 1) := by decide +kernel
theorem tg_d344_55 : decode gk_N344.2.2 55 = .ok (.getfield 65, 3) := by decide +kernel
theorem tg_d344_58 : decode gk_N344.2.2 58 = .ok (.bipush 61, 2) := by decide +kernel
theorem tg_d344_60 : decode gk_N344.2.2 60 = .ok (.iload_n 3, 1) := by decide +kernel
theorem tg_d344_61 : decode gk_N344.2.2 61 = .ok (.imul, 1) := by decide +kernel
theorem tg_d344_62 : decode gk_N344.2.2 62 = .ok (.iload 4, 2) := by decide +kernel
theorem tg_d344_64 : decode gk_N344.2.2 64 = .ok (.iadd, 1) := by decide +kernel
theorem tg_d344_65 : decode gk_N344.2.2 65 = .ok (.aload_n 0, 1) := by decide +kernel
theorem tg_d344_66 : decode gk_N344.2.2 66 = .ok (.getfield 65, 3) := by decide +kernel
theorem tg_d344_69 : decode gk_N344.2.2 69 = .ok (.bipush 61, 2) := by decide +kernel
theorem tg_d344_71 : decode gk_N344.2.2 71 = .ok (.iload_n 3, 1) := by decide +kernel
theorem tg_d344_72 : decode gk_N344.2.2 72 = .ok (.imul, 1) := by decide +kernel
theorem tg_d344_73 : decode gk_N344.2.2 73 = .ok (.iload 4, 2) := by decide +kernel
theorem tg_d344_75 : decode gk_N344.2.2 75 = .ok (.iadd, 1) := by decide +kernel
theorem tg_d344_76 : decode gk_N344.2.2 76 = .ok (.iaload, 1) := by decide +kernel
theorem tg_d344_77 : decode gk_N344.2.2 77 = .ok (.aload_n 0, 1) := by decide +kernel
theorem tg_d344_78 : decode gk_N344.2.2 78 = .ok (.iload 4, 2) := by decide +kernel
theorem tg_d344_80 : decode gk_N344.2.2 80 = .ok (.iload_n 3, 1) := by decide +kernel
theorem tg_d344_81 : decode gk_N344.2.2 81 = .ok (.iload 5, 2) := by decide +kernel
theorem tg_d344_83 : decode gk_N344.2.2 83 = .ok (.invokevirtual 462, 3) := by decide +kernel
theorem tg_d344_86 : decode gk_N344.2.2 86 = .ok (.invokestatic 151, 3) := by decide +kernel
theorem tg_d344_89 : decode gk_N344.2.2 89 = .ok (.iastore, 1) := by decide +kernel
theorem tg_d344_90 : decode gk_N344.2.2 90 = .ok (.iinc 5 1, 3) := by decide +kernel
theorem tg_d344_93 : decode gk_N344.2.2 93 = .ok (.goto (-50), 3) := by decide +kernel
theorem tg_d344_96 : decode gk_N344.2.2 96 = .ok (.iinc 4 1, 3) := by decide +kernel
theorem tg_d344_99 : decode gk_N344.2.2 99 = .ok (.goto (-89), 3) := by decide +kernel
theorem tg_d344_102 : decode gk_N344.2.2 102 = .ok (.iinc 3 1, 3) := by decide +kernel
theorem tg_d344_105 : decode gk_N344.2.2 105 = .ok (.goto (-103), 3) := by decide +kernel
theorem tg_d344_108 : decode gk_N344.2.2 108 = .ok (.aload_n 0, 1) := by decide +kernel
theorem tg_d344_109 : decode gk_N344.2.2 109 = .ok (.getfield 65, 3) := by decide +kernel
theorem tg_d344_112 : decode gk_N344.2.2 112 = .ok (.bipush 61, 2) := by decide +kernel
theorem tg_d344_114 : decode gk_N344.2.2 114 = .ok (.iload_n 2, 1) := by decide +kernel
theorem tg_d344_115 : decode gk_N344.2.2 115 = .ok (.imul, 1) := by decide +kernel
theorem tg_d344_116 : decode gk_N344.2.2 116 = .ok (.iload_n 1, 1) := by decide +kernel
theorem tg_d344_117 : decode gk_N344.2.2 117 = .ok (.iadd, 1) := by decide +kernel
theorem tg_d344_118 : decode gk_N344.2.2 118 = .ok (.iaload, 1) := by decide +kernel
theorem tg_d344_119 : decode gk_N344.2.2 119 = .ok (.ireturn, 1) := by decide +kernel
theorem tg_d345_0 : decode gk_N345.2.2 0 = .ok (.iconst 1, 1) := by decide +kernel
theorem tg_d345_1 : decode gk_N345.2.2 1 = .ok (.aload_n 0, 1) := by decide +kernel
theorem tg_d345_2 : decode gk_N345.2.2 2 = .ok (.getfield 65, 3) := by decide +kernel
theorem tg_d345_5 : decode gk_N345.2.2 5 = .ok (.bipush 61, 2) := by decide +kernel
theorem tg_d345_7 : decode gk_N345.2.2 7 = .ok (.iload_n 2, 1) := by decide +kernel
theorem tg_d345_8 : decode gk_N345.2.2 8 = .ok (.iconst 1, 1) := by decide +kernel
theorem tg_d345_9 : decode gk_N345.2.2 9 = .ok (.isub, 1) := by decide +kernel
theorem tg_d345_10 : decode gk_N345.2.2 10 = .ok (.imul, 1) := by decide +kernel
theorem tg_d345_11 : decode gk_N345.2.2 11 = .ok (.iload_n 3, 1) := by decide +kernel
theorem tg_d345_12 : decode gk_N345.2.2 12 = .ok (.iadd, 1) := by decide +kernel
theorem tg_d345_13 : decode gk_N345.2.2 13 = .ok (.iconst 1, 1) := by decide +kernel
theorem tg_d345_14 : decode gk_N345.2.2 14 = .ok (.isub, 1) := by decide +kernel
theorem tg_d345_15 : decode gk_N345.2.2 15 = .ok (.iaload, 1) := by decide +kernel
theorem tg_d345_16 : decode gk_N345.2.2 16 = .ok (.aload_n 0, 1) := by decide +kernel
theorem tg_d345_17 : decode gk_N345.2.2 17 = .ok (.getfield 65, 3) := by decide +kernel
theorem tg_d345_20 : decode gk_N345.2.2 20 = .ok (.bipush 61, 2) := by decide +kernel
theorem tg_d345_22 : decode gk_N345.2.2 22 = .ok (.iload_n 2, 1) := by decide +kernel
theorem tg_d345_23 : decode gk_N345.2.2 23 = .ok (.imul, 1) := by decide +kernel
theorem tg_d345_24 : decode gk_N345.2.2 24 = .ok (.iload_n 1, 1) := by decide +kernel
theorem tg_d345_25 : decode gk_N345.2.2 25 = .ok (.iadd, 1) := by decide +kernel
theorem tg_d345_26 : decode gk_N345.2.2 26 = .ok (.iload_n 3, 1) := by decide +kernel
theorem tg_d345_27 : decode gk_N345.2.2 27 = .ok (.isub, 1) := by decide +kernel
theorem tg_d345_28 : decode gk_N345.2.2 28 = .ok (.iaload, 1) := by decide +kernel
theorem tg_d345_29 : decode gk_N345.2.2 29 = .ok (.invokestatic 297, 3) := by decide +kernel
theorem tg_d345_32 : decode gk_N345.2.2 32 = .ok (.iadd, 1) := by decide +kernel
theorem tg_d345_33 : decode gk_N345.2.2 33 = .ok (.ireturn, 1) := by decide +kernel
set_option maxHeartbeats 1000000 in
theorem tg_tried (l : Launch) (D : va_G) (ws : va_W) (j kk h0 a : Nat) (cA : ClassId) (vs : List Value) (f : Nat → Int32) (K X t p1 q1 sz : Nat) (hj : ws[j]? = some (h0, .inr (12, vs))) (hv : vs[32]? = some (.ref a)) (hk : ws[kk]? = some (a, .inl (cA, 427, .inl f))) (hK6 : K ≤ 5) (hXt : X < t) (ht : t ≤ 60) (hp : f (61 * K + X) = nI p1) (hq : f (61 * (K + 1) + (t - 1 - X)) = nI q1) (hp1 : p1 ≤ 1000000) (hq1 : q1 ≤ 1000000) : Met l gk_y_345 (Jvm.Cond.code gk_y_345 gk_N345.2.2 4 (some .int) :: gk_tbl) { frames := 1, cells := 0, slots := 0, locals := 40 } (fun v U => v = [Value.ref h0, .int (nI t), .int (nI (K + 1)), .int (nI (X + 1))].toArray ∧ U.heap.size = sz ∧ va_P D gk_cl ws U.heap ∧ va_K D gk_cl [(cA, .int)] U) (va_Qi (S := Unit) (fun r _ => r = nI (1 + max p1 q1)) (fun _ _ => True) (fun q => sz ≤ q)) 0 0 (fun q => sz ≤ q) := by
  refine Met.ofW (cc := gk_N345.2.2) (maxL := 4) (ret := some .int) (by decide +kernel) rfl ?_
  intro p e s m args below meth c s₁ B hml hv0
  obtain ⟨rfl, hsz, hP, hK⟩ := hv0
  have hx := B.exec; have hb := B.bytes; have hr := B.returns
  have hts : ∀ w ∈ gk_tbl, w.before ([Value.ref h0, .int (nI t), .int (nI (K + 1)), .int (nI (X + 1))].toArray) s = true := fun w hw => atoms_spec (ws := Jvm.Cond.code gk_y_345 gk_N345.2.2 4 (some .int) :: gk_tbl) B.pre w (List.mem_cons_of_mem _ hw)
  have hown : s.vm.findClass "GooseIceModel" = some m.cls := findClass_of_methodNamed B.named
  subst hsz
  have hS : va_S (fun q => s.heap.size ≤ q) s.heap s.heap [] := va_S.rf
  have hl := lv_entry ([Value.ref h0, .int (nI t), .int (nI (K + 1)), .int (nI (X + 1))]) (n := 4) (Nat.le_of_ble_eq_true rfl)
  rw [lg_entry_eq]
  generalize (lg_sl ([Value.ref h0, .int (nI t), .int (nI (K + 1)), .int (nI (X + 1))]) ++ List.replicate (4 - (lg_sl ([Value.ref h0, .int (nI t), .int (nI (K + 1)), .int (nI (X + 1))])).length) Slot.unset).toArray = ls at hl ⊢
  have hl : lv_has ls 4 [(0, .ref h0), (1, .int (nI t)), (2, .int (nI (K + 1))), (3, .int (nI (X + 1)))] := hl
  refine lv_iconst (v := nI 1) hx hb tg_d345_0 (by decide +kernel) ?_
  refine lv_aload_n hx hb tg_d345_1 rfl (lv_at hl 0 rfl) ?_
  refine va_get (D := D) (ci := 12) (v := .ref a) (own := "GooseIceModel") (ref := "GooseIceModel") (index := 65) (C := gk_R12) (T := gk_T12) (N := 43) hx hb hts gk_u12 hown hK hP j hj rfl 32 (by decide) (hts _ (rk_mt 1691 (by decide +kernel) rfl)) (fun _ h9 => h9) hv tg_d345_2 ?_
  refine lv_bipush (v := nI 61) hx hb tg_d345_5 (by decide +kernel) ?_
  refine lv_iload_n hx hb tg_d345_7 rfl (lv_at hl 2 rfl) ?_
  refine lv_iconst (v := 1) hx hb tg_d345_8 (by decide +kernel) ?_
  refine lv_isub hx hb tg_d345_9 ?_
  rw [nI_pred]
  refine lv_imul hx hb tg_d345_10 ?_
  rw [tg_mul]
  refine lv_iload_n hx hb tg_d345_11 rfl (lv_at hl 3 rfl) ?_
  refine lv_iadd hx hb tg_d345_12 ?_
  refine lv_iconst (v := 1) hx hb tg_d345_13 (by decide +kernel) ?_
  refine lv_isub hx hb tg_d345_14 ?_
  rw [nI_add, show 61 * K + (X + 1) = (61 * K + X) + 1 by omega, nI_pred]
  refine va_iald hx hb hK hP kk 0 hk rfl (tg_in (by omega)) tg_d345_15 ?_
  rw [nI_clamp (by omega), hp]
  refine lv_aload_n hx hb tg_d345_16 rfl (lv_at hl 0 rfl) ?_
  refine va_get (D := D) (ci := 12) (v := .ref a) (own := "GooseIceModel") (ref := "GooseIceModel") (index := 65) (C := gk_R12) (T := gk_T12) (N := 43) hx hb hts gk_u12 hown hK hP j hj rfl 32 (by decide) (hts _ (rk_mt 1691 (by decide +kernel) rfl)) (fun _ h9 => h9) hv tg_d345_17 ?_
  refine lv_bipush (v := nI 61) hx hb tg_d345_20 (by decide +kernel) ?_
  refine lv_iload_n hx hb tg_d345_22 rfl (lv_at hl 2 rfl) ?_
  refine lv_imul hx hb tg_d345_23 ?_
  refine lv_iload_n hx hb tg_d345_24 rfl (lv_at hl 1 rfl) ?_
  refine lv_iadd hx hb tg_d345_25 ?_
  refine lv_iload_n hx hb tg_d345_26 rfl (lv_at hl 3 rfl) ?_
  refine lv_isub hx hb tg_d345_27 ?_
  rw [tg_mul, nI_add, tg_sub (by omega), show 61 * (K + 1) + t - (X + 1) = 61 * (K + 1) + (t - 1 - X) by omega]
  refine va_iald hx hb hK hP kk 0 hk rfl (tg_in (by omega)) tg_d345_28 ?_
  rw [nI_clamp (by omega), hq]
  refine va_mmax hx hb (by rw [hml]; exact hl.1.symm) hown (hts _ (rk_mt 2033 (by decide +kernel) rfl)) (hts _ (rk_mt 1098 (by decide +kernel) rfl)) (hts _ (rk_mt 240 (by decide +kernel) rfl)) (hts _ (rk_mt 1099 (by decide +kernel) rfl)) (Nat.le_refl _) (Nat.le_of_ble_eq_true rfl) (Nat.zero_le _) (Nat.zero_le _) tg_d345_29 ?_
  rw [tg_max (by omega) (by omega)]
  refine lv_iadd hx hb tg_d345_32 ?_
  rw [nI_add]
  exact W.iret (v := nI (1 + max p1 q1)) hx hb hr (fun t9 ht9 hW => ⟨⟨_, (), rfl, rfl, trivial⟩, hS.F ht9⟩) hS.2.2 tg_d345_33
section TGB
variable {p : Program} {l : Launch} {e : Env} {R : Room} {s : State} {m : MethodId} {args : Array Value} {below : List Frame} {meth : Method} {c : Code} {Q : State → Prop} {D : va_G} {Ad : Nat → Prop}
set_option maxHeartbeats 4000000 in
/-- trialsOf(n, b): the table is filled, its corner is the answer -/
theorem tg_body (hx : p.tables.exec = Jvm.exec) (hb : c.code = gk_N344.2.2) (hml : c.maxLocals = 6) (hts : ∀ w ∈ gk_tbl, w.before args s = true) (hown : s.vm.findClass "GooseIceModel" = some m.cls) {cA : ClassId} (hK : va_K D gk_cl [(cA, .int)] s) (hA : ∀ q, s.heap.size ≤ q → Ad q) (hfr : 2 ≤ R.frames) (hlo : 80 ≤ R.locals) {ws : va_W} {j kk h0 a n b : Nat} {vs : List Value} {f0 : Nat → Int32} (hj : ws[j]? = some (h0, .inr (12, vs))) (hv : vs[32]? = some (.ref a)) (hk : ws[kk]? = some (a, .inl (cA, 427, .inl f0))) (hn : n ≤ 60) (hb6 : b ≤ 6) {H : Heap} {locs : List Loc} {ls : Array Slot} (hP : va_P D gk_cl ws H) (hD : va_D Ad ws) (hS : va_S Ad s.heap H locs) (hl : lv_has ls 6 [(0, .ref h0), (1, .int (nI n)), (2, .int (nI b))])
    (kend : ∀ (H : Heap) (locs : List Loc) (ls : Array Slot) (f : Nat → Int32), va_P D gk_cl (ws.set kk (a, .inl (cA, 427, .inl f))) H → va_D Ad (ws.set kk (a, .inl (cA, 427, .inl f))) → va_S Ad s.heap H locs → (∀ k t, k ≤ b → t ≤ n → f (61 * k + t) = nI (tg k t)) → (∀ i, (∀ k t, k ≤ b → t ≤ n → i ≠ 61 * k + t) → f i = f0 i) → W p l e R s m args below meth c H locs 0 0 Q (F0 m 119 ls [.int (nI (tg b n))])) :
    W p l e R s m args below meth c H locs 0 0 Q (F0 m 0 ls []) := by
  have hjk : kk ≠ j := by rintro rfl; rw [hj] at hk; cases hk
  have hkl : kk < ws.length := (List.getElem?_eq_some_iff.mp hk).1
  obtain ⟨Z, hZ⟩ : ∃ Z : (Nat → Int32) → va_W, ∀ f, Z f = ws.set kk (a, .inl (cA, 427, .inl f)) := ⟨_, fun _ => rfl⟩
  have hZj : ∀ f, (Z f)[j]? = some (h0, .inr (12, vs)) := fun f => by rw [hZ, List.getElem?_set_ne hjk]; exact hj
  have hZk : ∀ f, (Z f)[kk]? = some (a, .inl (cA, 427, .inl f)) := fun f => by rw [hZ, List.getElem?_set_self hkl]
  have hZs : ∀ f g, (Z f).set kk (a, .inl (cA, 427, .inl g)) = Z g := fun f g => by rw [hZ, hZ, List.set_set]
  have hZ0 : Z f0 = ws := by
    rw [hZ]
    apply List.ext_getElem?
    intro i
    rw [List.getElem?_set]
    split
    · next q => subst q; first | exact hk.symm | (rw [if_pos hkl]; exact hk.symm)
    · rfl
  obtain ⟨I, hIe⟩ : ∃ I : (Nat → Int32) → Heap → List Loc → Prop, ∀ f H locs, I f H locs = (va_P D gk_cl (Z f) H ∧ va_D Ad (Z f) ∧ va_S Ad s.heap H locs) := ⟨_, fun _ _ _ => rfl⟩
  have hI0 : I f0 H locs := by rw [hIe, hZ0]; exact ⟨hP, hD, hS⟩
  clear hP hD hS
  -- the state of the table: rows below k, the row k below t, the rest as it was
  obtain ⟨J, hJ⟩ : ∃ J : (Nat → Int32) → Nat → Nat → Prop, ∀ f k t, J f k t = ((∀ k' t', k' < k → t' ≤ n → f (61 * k' + t') = nI (tg k' t')) ∧ (∀ t', t' < t → f (61 * k + t') = nI (tg k t')) ∧ (∀ i, (∀ k' t', k' ≤ b → t' ≤ n → i ≠ 61 * k' + t') → f i = f0 i)) := ⟨_, fun _ _ _ => rfl⟩
  -- the inner loop
  have inner : ∀ (k t : Nat), k ≤ b → t ≤ n → (∀ (H : Heap) (locs : List Loc) (ls : Array Slot) (f : Nat → Int32), I f H locs → J f k (t + 1) → lv_has ls 6 [(0, .ref h0), (1, .int (nI n)), (2, .int (nI b)), (3, .int (nI k)), (4, .int (nI t))] → W p l e R s m args below meth c H locs 0 0 Q (F0 m 96 ls [])) →
      ∀ (r X : Nat), X + r = t → ∀ (H : Heap) (locs : List Loc) (ls : Array Slot) (f : Nat → Int32), I f H locs → J f k t → (f (61 * k + t) = nI (if t = 0 then 0 else if k = 0 then 1000000 else tg_acc k t X)) → lv_has ls 6 [(0, .ref h0), (1, .int (nI n)), (2, .int (nI b)), (3, .int (nI k)), (4, .int (nI t)), (5, .int (nI (X + 1)))] → W p l e R s m args below meth c H locs 0 0 Q (F0 m 43 ls []) := by
    intro k t hkb htn kx r
    induction r with
    | zero =>
      intro X hXr H locs ls f hI hJf hf hl
      have hXt : X = t := by omega
      subst hXt
      refine lv_iload hx hb tg_d344_43 (lv_at hl 5 rfl) ?_
      refine lv_iload hx hb tg_d344_45 (lv_at hl 4 rfl) ?_
      refine lv_icmp_gt (tgt := 96) hx hb tg_d344_47 rfl (fun _ => ?_) (fun h => absurd (nI_lt (by omega) (by omega)) h)
      refine kx H locs ls f hI ?_ (lv_sub hl [0, 1, 2, 3, 4] rfl)
      rw [hJ] at hJf ⊢
      refine ⟨hJf.1, fun t' ht' => ?_, hJf.2.2⟩
      by_cases e9 : t' < X
      · exact hJf.2.1 t' e9
      · have e8 : t' = X := by omega
        subst e8
        rw [hf]
        by_cases h0 : t' = 0
        · rw [if_pos h0, h0, tg_c0 (by omega)]
        · rw [if_neg h0]
          by_cases hk0 : k = 0
          · rw [if_pos hk0, hk0, tg_c1 (by omega) h0]
          · rw [if_neg hk0, tg_c2 (by omega) hk0 (by omega) h0]
    | succ r ih =>
      intro X hXr H locs ls f hI hJf hf hl
      refine lv_iload hx hb tg_d344_43 (lv_at hl 5 rfl) ?_
      refine lv_iload hx hb tg_d344_45 (lv_at hl 4 rfl) ?_
      refine lv_icmp_gt (tgt := 96) hx hb tg_d344_47 rfl (fun h => absurd h (nI_nlt (by omega) (by omega))) (fun _ => ?_)
      refine lv_iload_n hx hb tg_d344_50 rfl (lv_at hl 3 rfl) ?_
      have ht0 : t ≠ 0 := by omega
      refine lv_if_le (tgt := 96) hx hb tg_d344_51 rfl (fun hle => ?_) (fun hgt => ?_)
      · have hk0 : k = 0 := by
          by_cases h : k = 0
          · exact h
          · exact absurd hle (nI_nle (by omega) (by omega))
        refine kx H locs ls f hI ?_ (lv_sub hl [0, 1, 2, 3, 4] rfl)
        rw [hJ] at hJf ⊢
        refine ⟨hJf.1, fun t' ht' => ?_, hJf.2.2⟩
        by_cases e9 : t' < t
        · exact hJf.2.1 t' e9
        · have e8 : t' = t := by omega
          subst e8
          rw [hf, if_neg ht0, if_pos hk0, hk0, tg_c1 (by omega) ht0]
      · have hk0 : k ≠ 0 := by
          rintro rfl
          exact hgt (by decide)
        obtain ⟨K, rfl⟩ : ∃ K, k = K + 1 := ⟨k - 1, by omega⟩
        rw [if_neg ht0, if_neg hk0] at hf
        rw [hIe] at hI
        refine lv_aload_n hx hb tg_d344_54 rfl (lv_at hl 0 rfl) ?_
        refine va_get (D := D) (ci := 12) (v := .ref a) (own := "GooseIceModel") (ref := "GooseIceModel") (index := 65) (C := gk_R12) (T := gk_T12) (N := 43) hx hb hts gk_u12 hown hK hI.1 j (hZj _) rfl 32 (by decide) (hts _ (rk_mt 1691 (by decide +kernel) rfl)) (fun _ h9 => h9) hv tg_d344_55 ?_
        refine lv_bipush (v := nI 61) hx hb tg_d344_58 (by decide +kernel) ?_
        refine lv_iload_n hx hb tg_d344_60 rfl (lv_at hl 3 rfl) ?_
        refine lv_imul hx hb tg_d344_61 ?_
        refine lv_iload hx hb tg_d344_62 (lv_at hl 4 rfl) ?_
        refine lv_iadd hx hb tg_d344_64 ?_
        refine lv_aload_n hx hb tg_d344_65 rfl (lv_at hl 0 rfl) ?_
        refine va_get (D := D) (ci := 12) (v := .ref a) (own := "GooseIceModel") (ref := "GooseIceModel") (index := 65) (C := gk_R12) (T := gk_T12) (N := 43) hx hb hts gk_u12 hown hK hI.1 j (hZj _) rfl 32 (by decide) (hts _ (rk_mt 1691 (by decide +kernel) rfl)) (fun _ h9 => h9) hv tg_d344_66 ?_
        refine lv_bipush (v := nI 61) hx hb tg_d344_69 (by decide +kernel) ?_
        refine lv_iload_n hx hb tg_d344_71 rfl (lv_at hl 3 rfl) ?_
        refine lv_imul hx hb tg_d344_72 ?_
        refine lv_iload hx hb tg_d344_73 (lv_at hl 4 rfl) ?_
        refine lv_iadd hx hb tg_d344_75 ?_
        rw [tg_mul, nI_add]
        refine va_iald hx hb hK hI.1 kk 0 (hZk _) rfl (tg_in (by omega)) tg_d344_76 ?_
        rw [nI_clamp (by omega), hf]
        refine lv_aload_n hx hb tg_d344_77 rfl (lv_at hl 0 rfl) ?_
        refine lv_iload hx hb tg_d344_78 (lv_at hl 4 rfl) ?_
        refine lv_iload_n hx hb tg_d344_80 rfl (lv_at hl 3 rfl) ?_
        refine lv_iload hx hb tg_d344_81 (lv_at hl 5 rfl) ?_
        have hJ1 := hJf
        rw [hJ] at hJ1
        have hp9 : f (61 * K + X) = nI (tg K X) := hJ1.1 K X (by omega) (by omega)
        have hq9 : f (61 * (K + 1) + (t - 1 - X)) = nI (tg (K + 1) (t - 1 - X)) := hJ1.2.1 _ (by omega)
        refine va_calli (va_runV (C := "GooseIceModel") (As := [.int (nI t), .int (nI (K + 1)), .int (nI (X + 1))]) (rest := [.int (nI (tg_acc (K + 1) t X)), .int (nI (61 * (K + 1) + t)), .ref a]) ⟨hx, hb, hml, hown, hts⟩ (tg_tried l D (Z f) j kk h0 a cA vs f K X t _ _ H.size (hZj f) hv (hZk f) (by omega) (by omega) (by omega) hp9 hq9 (tg_c3 (by omega) (by omega)) (tg_c3 (by omega) (by omega))) ⟨callB_of 3 hts (rk_good gk_good (rk_mt 2370 (by decide +kernel) rfl)) rfl rfl rfl (hts _ (rk_mt 238 (by decide +kernel) rfl)) (hts _ (rk_mt 2367 (by decide +kernel) rfl)) ⟨(by decide +kernel), (by decide +kernel), (by decide +kernel)⟩ ⟨hfr, by show 8 + (4 + 11) + 40 ≤ R.locals; omega⟩, hts _ (rk_mt 2369 (by decide +kernel) rfl), hts _ (rk_mt 204 (by decide +kernel) rfl)⟩ ⟨fun v U g mk q => ⟨q.1, q.2.1, q.2.2.1, va_K.moved (u := U) (U := U.calling g mk v) (Vm.Alike.refl U.vm) q.2.2.2⟩, va_recv (hK.sub (tys' := []) [] rfl) hI.1 (ci := 12) (q0 := j) rfl (hZj f), fun U hU hW => ⟨rfl, by rw [hU], by rw [hU]; exact hI.1, va_K.moved hW.alike hK⟩⟩ rfl rfl hl.1 rfl (lv_room (Nat.le_of_ble_eq_true rfl)) tg_d344_83 ⟨Nat.zero_le _, Nat.zero_le _⟩) hI.2.2 (fun q h1 h2 => absurd h2 (by omega)) (fun q h => hA q (Nat.le_trans hI.2.2.1 h)) (fun r0 u t9 H1 locs1 ht9 hvm hw hB hz1 hk1 hS1 => ?_)
        subst hw
        have hP1 : va_P D gk_cl (Z f) H1 := hI.1.kept (fun k9 x9 hx9 => hk1 _ (hI.1 k9 x9 hx9).lt (by have := (hI.1 k9 x9 hx9).lt; omega))
        refine va_mmin hx hb (by rw [hml]; exact hl.1.symm) hown (hts _ (rk_mt 1867 (by decide +kernel) rfl)) (hts _ (rk_mt 1159 (by decide +kernel) rfl)) (hts _ (rk_mt 240 (by decide +kernel) rfl)) (hts _ (rk_mt 1160 (by decide +kernel) rfl)) (by omega) (by show 2 + 13 ≤ R.locals; omega) (Nat.zero_le _) (Nat.zero_le _) tg_d344_86 ?_
        have hbnd := tg_c3 (k := K) (m := X) (by omega) (by omega)
        have hbnd2 := tg_c3 (k := K + 1) (m := t - 1 - X) (by omega) (by omega)
        rw [tg_min (by have := tg_b (k := K + 1) (m := t) X; omega) (by omega)]
        have hacc : min (tg_acc (K + 1) t X) (1 + max (tg K X) (tg (K + 1) (t - 1 - X))) = tg_acc (K + 1) t (X + 1) := rfl
        rw [hacc]
        refine va_iast hx hb hK hP1 hI.2.1 hS1 kk 0 (hZk f) rfl (tg_in (by omega)) tg_d344_89 (fun H2 locs2 hP2 hD2 hS2 => ?_)
        rw [hZs, nI_clamp (by omega)] at hP2 hD2
        refine lv_iinc (v := nI (X + 1 + 1)) hx hb tg_d344_90 hl (k := 5) rfl (by rw [nI_succ (X + 1)]; first | done | rfl) (by decide) rfl (fun ls2 hl2 => ?_)
        refine lv_goto (tgt := 43) hx hb tg_d344_93 rfl ?_
        refine ih (X + 1) (by omega) H2 locs2 ls2 _ (by rw [hIe]; exact ⟨hP2, hD2, hS2⟩) ?_ ?_ (lv_sub hl2 [1, 2, 3, 4, 5, 0] rfl)
        · rw [hJ]
          refine ⟨fun k' t' h1 h2 => ?_, fun t' h1 => ?_, fun i hi => ?_⟩
          · rw [pk_un (by omega)]; exact hJ1.1 k' t' h1 h2
          · rw [pk_un (by omega)]; exact hJ1.2.1 t' h1
          · rw [pk_un (hi _ _ hkb htn)]; exact hJ1.2.2 i hi
        · rw [pk_us, if_neg ht0, if_neg hk0]
  -- the middle loop
  have middle : ∀ (k : Nat), k ≤ b → (∀ (H : Heap) (locs : List Loc) (ls : Array Slot) (f : Nat → Int32), I f H locs → J f k (n + 1) → lv_has ls 6 [(0, .ref h0), (1, .int (nI n)), (2, .int (nI b)), (3, .int (nI k))] → W p l e R s m args below meth c H locs 0 0 Q (F0 m 102 ls [])) →
      ∀ (r t : Nat), t + r = n + 1 → ∀ (H : Heap) (locs : List Loc) (ls : Array Slot) (f : Nat → Int32), I f H locs → J f k t → lv_has ls 6 [(0, .ref h0), (1, .int (nI n)), (2, .int (nI b)), (3, .int (nI k)), (4, .int (nI t))] → W p l e R s m args below meth c H locs 0 0 Q (F0 m 10 ls []) := by
    intro k hkb kx r
    induction r with
    | zero =>
      intro t htr H locs ls f hI hJf hl
      refine lv_iload hx hb tg_d344_10 (lv_at hl 4 rfl) ?_
      refine lv_iload_n hx hb tg_d344_12 rfl (lv_at hl 1 rfl) ?_
      refine lv_icmp_gt (tgt := 102) hx hb tg_d344_13 rfl (fun _ => ?_) (fun h => absurd (nI_lt (by omega) (by omega)) h)
      exact kx H locs ls f hI (by rw [show n + 1 = t by omega]; exact hJf) (lv_sub hl [0, 1, 2, 3] rfl)
    | succ r ih =>
      intro t htr H locs ls f hI hJf hl
      refine lv_iload hx hb tg_d344_10 (lv_at hl 4 rfl) ?_
      refine lv_iload_n hx hb tg_d344_12 rfl (lv_at hl 1 rfl) ?_
      refine lv_icmp_gt (tgt := 102) hx hb tg_d344_13 rfl (fun h => absurd h (nI_nlt (by omega) (by omega))) (fun _ => ?_)
      rw [hIe] at hI
      refine lv_aload_n hx hb tg_d344_16 rfl (lv_at hl 0 rfl) ?_
      refine va_get (D := D) (ci := 12) (v := .ref a) (own := "GooseIceModel") (ref := "GooseIceModel") (index := 65) (C := gk_R12) (T := gk_T12) (N := 43) hx hb hts gk_u12 hown hK hI.1 j (hZj _) rfl 32 (by decide) (hts _ (rk_mt 1691 (by decide +kernel) rfl)) (fun _ h9 => h9) hv tg_d344_17 ?_
      refine lv_bipush (v := nI 61) hx hb tg_d344_20 (by decide +kernel) ?_
      refine lv_iload_n hx hb tg_d344_22 rfl (lv_at hl 3 rfl) ?_
      refine lv_imul hx hb tg_d344_23 ?_
      refine lv_iload hx hb tg_d344_24 (lv_at hl 4 rfl) ?_
      refine lv_iadd hx hb tg_d344_26 ?_
      rw [tg_mul, nI_add]
      refine lv_iload hx hb tg_d344_27 (lv_at hl 4 rfl) ?_
      have store : ∀ (v : Nat), v = (if t = 0 then 0 else 1000000) → W p l e R s m args below meth c H locs 0 0 Q (F0 m 39 ls [.int (nI v), .int (nI (61 * k + t)), .ref a]) := by
        intro v hvv
        refine va_iast hx hb hK hI.1 hI.2.1 hI.2.2 kk 0 (hZk f) rfl (tg_in (by omega)) tg_d344_39 (fun H2 locs2 hP2 hD2 hS2 => ?_)
        rw [hZs, nI_clamp (by omega)] at hP2 hD2
        refine lv_iconst (v := nI (0 + 1)) hx hb tg_d344_40 (by decide +kernel) ?_
        refine lv_istore hx hb tg_d344_41 hl (by decide) rfl (fun ls2 hl2 => ?_)
        refine inner k t hkb (by omega) (fun H3 locs3 ls3 f3 hI3 hJ3 hl3 => ?_) t 0 (by omega) H2 locs2 ls2 _ (by rw [hIe]; exact ⟨hP2, hD2, hS2⟩) ?_ ?_ (lv_sub hl2 [1, 2, 3, 4, 5, 0] rfl)
        · refine lv_iinc (v := nI (t + 1)) hx hb tg_d344_96 hl3 (k := 4) rfl (by rw [nI_succ t]; first | done | rfl) (by decide) rfl (fun ls4 hl4 => ?_)
          refine lv_goto (tgt := 10) hx hb tg_d344_99 rfl ?_
          exact ih (t + 1) (by omega) H3 locs3 ls4 f3 hI3 hJ3 (lv_sub hl4 [1, 2, 3, 4, 0] rfl)
        · rw [hJ] at hJf ⊢
          refine ⟨fun k' t' h1 h2 => ?_, fun t' h1 => ?_, fun i hi => ?_⟩
          · rw [pk_un (by omega)]; exact hJf.1 k' t' h1 h2
          · rw [pk_un (by omega)]; exact hJf.2.1 t' h1
          · rw [pk_un (hi _ _ hkb (by omega))]; exact hJf.2.2 i hi
        · rw [pk_us, hvv]
          by_cases h0 : t = 0
          · rw [if_pos h0, if_pos h0]
          · rw [if_neg h0, if_neg h0]
            by_cases hk0 : k = 0
            · rw [if_pos hk0]
            · rw [if_neg hk0]; rfl
      refine lv_if_ne (tgt := 36) hx hb tg_d344_29 rfl (fun hne => ?_) (fun heq => ?_)
      · have ht0 : t ≠ 0 := by rintro rfl; exact hne (by decide)
        refine lv_ldcw (v := 1000000) hx hb hown (hts _ (rk_mt 2133 (by decide +kernel) rfl)) tg_d344_36 ?_
        exact store 1000000 (by rw [if_neg ht0])
      · have ht0 : t = 0 := by
          by_cases h : t = 0
          · exact h
          · exact absurd heq (nI_ne0 (by omega) (by omega))
        refine lv_iconst (v := nI 0) hx hb tg_d344_32 (by decide +kernel) ?_
        refine lv_goto (tgt := 39) hx hb tg_d344_33 rfl ?_
        exact store 0 (by rw [if_pos ht0])
  -- the outer loop
  have outer : ∀ (r k : Nat), k + r = b + 1 → ∀ (H : Heap) (locs : List Loc) (ls : Array Slot) (f : Nat → Int32), I f H locs → J f k 0 → lv_has ls 6 [(0, .ref h0), (1, .int (nI n)), (2, .int (nI b)), (3, .int (nI k))] → W p l e R s m args below meth c H locs 0 0 Q (F0 m 2 ls []) := by
    intro r
    induction r with
    | zero =>
      intro k hkr H locs ls f hI hJf hl
      refine lv_iload_n hx hb tg_d344_2 rfl (lv_at hl 3 rfl) ?_
      refine lv_iload_n hx hb tg_d344_3 rfl (lv_at hl 2 rfl) ?_
      refine lv_icmp_gt (tgt := 108) hx hb tg_d344_4 rfl (fun _ => ?_) (fun h => absurd (nI_lt (by omega) (by omega)) h)
      rw [hIe] at hI
      rw [hJ] at hJf
      refine lv_aload_n hx hb tg_d344_108 rfl (lv_at hl 0 rfl) ?_
      refine va_get (D := D) (ci := 12) (v := .ref a) (own := "GooseIceModel") (ref := "GooseIceModel") (index := 65) (C := gk_R12) (T := gk_T12) (N := 43) hx hb hts gk_u12 hown hK hI.1 j (hZj _) rfl 32 (by decide) (hts _ (rk_mt 1691 (by decide +kernel) rfl)) (fun _ h9 => h9) hv tg_d344_109 ?_
      refine lv_bipush (v := nI 61) hx hb tg_d344_112 (by decide +kernel) ?_
      refine lv_iload_n hx hb tg_d344_114 rfl (lv_at hl 2 rfl) ?_
      refine lv_imul hx hb tg_d344_115 ?_
      refine lv_iload_n hx hb tg_d344_116 rfl (lv_at hl 1 rfl) ?_
      refine lv_iadd hx hb tg_d344_117 ?_
      rw [tg_mul, nI_add]
      refine va_iald hx hb hK hI.1 kk 0 (hZk _) rfl (tg_in (by omega)) tg_d344_118 ?_
      rw [nI_clamp (by omega), hJf.1 b n (by omega) (Nat.le_refl _)]
      rw [hZ] at hI
      exact kend H locs ls f hI.1 hI.2.1 hI.2.2 (fun k' t' h1 h2 => hJf.1 k' t' (by omega) h2) hJf.2.2
    | succ r ih =>
      intro k hkr H locs ls f hI hJf hl
      refine lv_iload_n hx hb tg_d344_2 rfl (lv_at hl 3 rfl) ?_
      refine lv_iload_n hx hb tg_d344_3 rfl (lv_at hl 2 rfl) ?_
      refine lv_icmp_gt (tgt := 108) hx hb tg_d344_4 rfl (fun h => absurd h (nI_nlt (by omega) (by omega))) (fun _ => ?_)
      refine lv_iconst (v := nI 0) hx hb tg_d344_7 (by decide +kernel) ?_
      refine lv_istore hx hb tg_d344_8 hl (by decide) rfl (fun ls2 hl2 => ?_)
      refine middle k (by omega) (fun H3 locs3 ls3 f3 hI3 hJ3 hl3 => ?_) (n + 1) 0 (by omega) H locs ls2 f hI hJf (lv_sub hl2 [1, 2, 3, 4, 0] rfl)
      refine lv_iinc (v := nI (k + 1)) hx hb tg_d344_102 hl3 (k := 3) rfl (by rw [nI_succ k]; first | done | rfl) (by decide) rfl (fun ls4 hl4 => ?_)
      refine lv_goto (tgt := 2) hx hb tg_d344_105 rfl ?_
      refine ih (k + 1) (by omega) H3 locs3 ls4 f3 hI3 ?_ (lv_sub hl4 [1, 2, 3, 0] rfl)
      rw [hJ] at hJ3 ⊢
      refine ⟨fun k' t' h1 h2 => ?_, fun t' h1 => absurd h1 (by omega), hJ3.2.2⟩
      by_cases h9 : k' < k
      · exact hJ3.1 k' t' h9 h2
      · rw [show k' = k by omega]; exact hJ3.2.1 t' (by omega)
  refine lv_iconst (v := nI 0) hx hb tg_d344_0 (by decide +kernel) ?_
  refine lv_istore_n hx hb tg_d344_1 rfl hl (by decide) rfl (fun ls2 hl2 => ?_)
  exact outer (b + 1) 0 (by omega) H locs ls2 f0 hI0 (by rw [hJ]; exact ⟨fun _ _ h => absurd h (by omega), fun _ h => absurd h (by omega), fun _ _ => rfl⟩) (lv_sub hl2 [1, 2, 3, 0] rfl)
end TGB
end MH15_3
section MH15_4
/-! ===== the class's Reader: the loop over the text ===== -/
def rd_step (z : Nat × List Int64) (c : Int32) : Nat × List Int64 := if c = 32 then (z.1 + 1, z.2) else if z.1 < 23 then (z.1, z.2.set z.1 (z.2.getD z.1 0 * 32 + (c - 97 + 1).toInt64)) else z
def rd : Nat → Nat × List Int64
  | 0 => (0, List.replicate 23 0)
  | k + 1 => rd_step (rd k) (sg_b.getD k 0)
theorem rd_len : ∀ k : Nat, (rd k).2.length = 23 := by
  intro k
  induction k with
  | zero => rfl
  | succ k ih =>
    show (rd_step (rd k) (sg_b.getD k 0)).2.length = 23
    unfold rd_step
    split
    · exact ih
    · split
      · rw [List.length_set]; exact ih
      · exact ih
theorem rd_at : ∀ k : Nat, (rd k).1 ≤ k := by
  intro k
  induction k with
  | zero => exact Nat.le_refl _
  | succ k ih =>
    show (rd_step (rd k) (sg_b.getD k 0)).1 ≤ k + 1
    unfold rd_step
    split
    · exact Nat.succ_le_succ ih
    · split
      · exact Nat.le_succ_of_le ih
      · exact Nat.le_succ_of_le ih
theorem rd_d35 : decode gk_N99.2.2 35 = .ok (.iload_n 2, 1) := by decide +kernel
theorem rd_d36 : decode gk_N99.2.2 36 = .ok (.ldc 26, 2) := by decide +kernel
theorem rd_d38 : decode gk_N99.2.2 38 = .ok (.invokevirtual 28, 3) := by decide +kernel
theorem rd_d41 : decode gk_N99.2.2 41 = .ok (.if_icmp .ge 58, 3) := by decide +kernel
theorem rd_d44 : decode gk_N99.2.2 44 = .ok (.ldc 26, 2) := by decide +kernel
theorem rd_d46 : decode gk_N99.2.2 46 = .ok (.iload_n 2, 1) := by decide +kernel
theorem rd_d47 : decode gk_N99.2.2 47 = .ok (.invokevirtual 34, 3) := by decide +kernel
theorem rd_d50 : decode gk_N99.2.2 50 = .ok (.istore_n 3, 1) := by decide +kernel
theorem rd_d51 : decode gk_N99.2.2 51 = .ok (.iload_n 3, 1) := by decide +kernel
theorem rd_d52 : decode gk_N99.2.2 52 = .ok (.bipush 32, 2) := by decide +kernel
theorem rd_d54 : decode gk_N99.2.2 54 = .ok (.if_icmp .ne 9, 3) := by decide +kernel
theorem rd_d57 : decode gk_N99.2.2 57 = .ok (.iinc 1 1, 3) := by decide +kernel
theorem rd_d60 : decode gk_N99.2.2 60 = .ok (.goto 33, 3) := by decide +kernel
theorem rd_d63 : decode gk_N99.2.2 63 = .ok (.iload_n 1, 1) := by decide +kernel
theorem rd_d64 : decode gk_N99.2.2 64 = .ok (.bipush 23, 2) := by decide +kernel
theorem rd_d66 : decode gk_N99.2.2 66 = .ok (.if_icmp .ge 27, 3) := by decide +kernel
theorem rd_d69 : decode gk_N99.2.2 69 = .ok (.aload_n 0, 1) := by decide +kernel
theorem rd_d70 : decode gk_N99.2.2 70 = .ok (.getfield 15, 3) := by decide +kernel
theorem rd_d73 : decode gk_N99.2.2 73 = .ok (.iload_n 1, 1) := by decide +kernel
theorem rd_d74 : decode gk_N99.2.2 74 = .ok (.aload_n 0, 1) := by decide +kernel
theorem rd_d75 : decode gk_N99.2.2 75 = .ok (.getfield 15, 3) := by decide +kernel
theorem rd_d78 : decode gk_N99.2.2 78 = .ok (.iload_n 1, 1) := by decide +kernel
theorem rd_d79 : decode gk_N99.2.2 79 = .ok (.laload, 1) := by decide +kernel
theorem rd_d80 : decode gk_N99.2.2 80 = .ok (.ldc2_w 38, 3) := by decide +kernel
theorem rd_d83 : decode gk_N99.2.2 83 = .ok (.lmul, 1) := by decide +kernel
theorem rd_d84 : decode gk_N99.2.2 84 = .ok (.iload_n 3, 1) := by decide +kernel
theorem rd_d85 : decode gk_N99.2.2 85 = .ok (.bipush 97, 2) := by decide +kernel
theorem rd_d87 : decode gk_N99.2.2 87 = .ok (.isub, 1) := by decide +kernel
theorem rd_d88 : decode gk_N99.2.2 88 = .ok (.iconst 1, 1) := by decide +kernel
theorem rd_d89 : decode gk_N99.2.2 89 = .ok (.iadd, 1) := by decide +kernel
theorem rd_d90 : decode gk_N99.2.2 90 = .ok (.i2l, 1) := by decide +kernel
theorem rd_d91 : decode gk_N99.2.2 91 = .ok (.ladd, 1) := by decide +kernel
theorem rd_d92 : decode gk_N99.2.2 92 = .ok (.lastore, 1) := by decide +kernel
theorem rd_d93 : decode gk_N99.2.2 93 = .ok (.iinc 2 1, 3) := by decide +kernel
theorem rd_d96 : decode gk_N99.2.2 96 = .ok (.goto (-61), 3) := by decide +kernel
theorem rd_d99 : decode gk_N99.2.2 99 = .ok (.return_, 1) := by decide +kernel
section RDB
variable {p : Program} {l : Launch} {e : Env} {R : Room} {s : State} {m : MethodId} {args : Array Value} {below : List Frame} {meth : Method} {c : Code} {Q : State → Prop} {D : va_G} {Ad : Nat → Prop}
set_option maxHeartbeats 4000000 in
theorem rd_body (hx : p.tables.exec = Jvm.exec) (hb : c.code = gk_N99.2.2) (hml : c.maxLocals = 4) (hts : ∀ w ∈ gk_tbl, w.before args s = true) (hown : s.vm.findClass "GooseIce$Reader" = some m.cls) {cA : ClassId} (hK : va_K D gk_cl [(cA, .long)] s) (hA : ∀ q, s.heap.size ≤ q → Ad q) {a v : Nat} {tx : String} (hX : sg_X a v Ad s s.heap) (hR : vk_R "GooseIce$Reader" 26 tx a s) (hfr : 5 ≤ R.frames) (hlo : 200 ≤ R.locals) {ws : va_W} {j kk h0 q nc ns : Nat} {vs : List Value} {f0 : Nat → Int64} (hnc : nc ≤ R.cells) (hns : ns ≤ R.slots) (hj : ws[j]? = some (h0, .inr (8, vs))) (hv : vs[1]? = some (.ref q)) (hk : ws[kk]? = some (q, .inl (cA, 23, .inr (.inl f0)))) (hf0 : ∀ i, f0 i = 0) {H : Heap} {locs : List Loc} {ls : Array Slot} (hP : va_P D gk_cl ws H) (hD : va_D Ad ws) (hS : va_S Ad s.heap H locs) (hl : lv_has ls 4 [(0, .ref h0), (1, .int (nI 0)), (2, .int (nI 0))])
    (kend : ∀ (H : Heap) (locs : List Loc) (ls : Array Slot) (f : Nat → Int64), va_P D gk_cl (ws.set kk (q, .inl (cA, 23, .inr (.inl f)))) H → va_D Ad (ws.set kk (q, .inl (cA, 23, .inr (.inl f)))) → va_S Ad s.heap H locs → (∀ i, f i = (rd 115).2.getD i 0) → lv_has ls 4 [(0, .ref h0)] → W p l e R s m args below meth c H locs nc ns Q (F0 m 99 ls [])) :
    W p l e R s m args below meth c H locs nc ns Q (F0 m 35 ls []) := by
  have hjk : kk ≠ j := by rintro rfl; rw [hj] at hk; cases hk
  have hkl : kk < ws.length := (List.getElem?_eq_some_iff.mp hk).1
  obtain ⟨Z, hZ⟩ : ∃ Z : (Nat → Int64) → va_W, ∀ f, Z f = ws.set kk (q, .inl (cA, 23, .inr (.inl f))) := ⟨_, fun _ => rfl⟩
  have hZj : ∀ f, (Z f)[j]? = some (h0, .inr (8, vs)) := fun f => by rw [hZ, List.getElem?_set_ne hjk]; exact hj
  have hZk : ∀ f, (Z f)[kk]? = some (q, .inl (cA, 23, .inr (.inl f))) := fun f => by rw [hZ, List.getElem?_set_self hkl]
  have hZs : ∀ f g, (Z f).set kk (q, .inl (cA, 23, .inr (.inl g))) = Z g := fun f g => by rw [hZ, hZ, List.set_set]
  have hZ0 : Z f0 = ws := by
    rw [hZ]
    apply List.ext_getElem?
    intro i
    rw [List.getElem?_set]
    split
    · next z => subst z; first | exact hk.symm | (rw [if_pos hkl]; exact hk.symm)
    · rfl
  have h115 : sg_n = 115 := by decide
  have loop : ∀ (r k : Nat), k + r = 115 → ∀ (H : Heap) (locs : List Loc) (ls : Array Slot) (f : Nat → Int64), (va_P D gk_cl (Z f) H ∧ va_D Ad (Z f) ∧ va_S Ad s.heap H locs) → (∀ i, f i = (rd k).2.getD i 0) → lv_has ls 4 [(0, .ref h0), (1, .int (nI (rd k).1)), (2, .int (nI k))] → W p l e R s m args below meth c H locs nc ns Q (F0 m 35 ls []) := by
    intro r
    induction r with
    | zero =>
      intro k hkr H locs ls f hI hf hl
      have hrec : ∃ cell : Cell, H[a]? = some cell ∧ cell.vm.isStatics = false ∧ s.vm.findClass "java/lang/String" = some cell.cls := by
        obtain ⟨cell, h1, h2, h3, -⟩ := hX.1.kept hI.2.2.2.1
        exact ⟨cell, h1, h2, h3⟩
      refine lv_iload_n hx hb rd_d35 rfl (lv_at hl 2 rfl) ?_
      refine va_ldcS hx hb hown hR rd_d36 ?_
      refine va_calli (va_runV (C := "java/lang/String") (As := []) (rest := [.int (nI k)]) ⟨hx, hb, hml, hown, hts⟩ (sg_length l a v H.size) ⟨callB_of 0 hts (rk_good gk_good (rk_mt 262 (by decide +kernel) rfl)) rfl rfl rfl (hts _ (rk_mt 223 (by decide +kernel) rfl)) (hts _ (rk_mt 259 (by decide +kernel) rfl)) ⟨(by decide +kernel), (by decide +kernel), (by decide +kernel)⟩ ⟨by show 2 + 1 ≤ R.frames; omega, by show 8 + (1 + 11) + 80 ≤ R.locals; omega⟩, hts _ (rk_mt 260 (by decide +kernel) rfl), hts _ (rk_mt 261 (by decide +kernel) rfl)⟩ ⟨sg_blind _ _ _ _, hrec, fun U hU hW => ⟨rfl, by rw [hU], sg_pre hX hI.2.2 hA hU hW⟩⟩ rfl rfl hl.1 rfl (lv_room (Nat.le_of_ble_eq_true rfl)) rd_d38 ⟨by omega, by omega⟩) hI.2.2 (fun q h1 h2 => absurd h2 (by omega)) (fun q h => hA q (Nat.le_trans hI.2.2.1 h)) (fun r0 u t H1 locs1 ht hvm hw hB hz1 hk1 hS1 => ?_)
      subst hw
      have hP1 : va_P D gk_cl (Z f) H1 := hI.1.kept (fun k9 x9 hx9 => hk1 _ (hI.1 k9 x9 hx9).lt (by have := (hI.1 k9 x9 hx9).lt; omega))
      refine lv_icmp_ge (tgt := 99) hx hb rd_d41 rfl (fun _ => ?_) (fun h => absurd (nI_le (a := sg_n) (b := k) (by omega) (by omega)) h)
      rw [hZ] at hP1 hI
      refine kend H1 locs1 ls f hP1 hI.2.1 hS1 (fun i => by rw [hf i, show k = 115 by omega]) (lv_sub hl [0] rfl)
    | succ r ih =>
      intro k hkr H locs ls f hI hf hl
      have hkn : k < sg_n := by omega
      have hrec : ∃ cell : Cell, H[a]? = some cell ∧ cell.vm.isStatics = false ∧ s.vm.findClass "java/lang/String" = some cell.cls := by
        obtain ⟨cell, h1, h2, h3, -⟩ := hX.1.kept hI.2.2.2.1
        exact ⟨cell, h1, h2, h3⟩
      refine lv_iload_n hx hb rd_d35 rfl (lv_at hl 2 rfl) ?_
      refine va_ldcS hx hb hown hR rd_d36 ?_
      refine va_calli (va_runV (C := "java/lang/String") (As := []) (rest := [.int (nI k)]) ⟨hx, hb, hml, hown, hts⟩ (sg_length l a v H.size) ⟨callB_of 0 hts (rk_good gk_good (rk_mt 262 (by decide +kernel) rfl)) rfl rfl rfl (hts _ (rk_mt 223 (by decide +kernel) rfl)) (hts _ (rk_mt 259 (by decide +kernel) rfl)) ⟨(by decide +kernel), (by decide +kernel), (by decide +kernel)⟩ ⟨by show 2 + 1 ≤ R.frames; omega, by show 8 + (1 + 11) + 80 ≤ R.locals; omega⟩, hts _ (rk_mt 260 (by decide +kernel) rfl), hts _ (rk_mt 261 (by decide +kernel) rfl)⟩ ⟨sg_blind _ _ _ _, hrec, fun U hU hW => ⟨rfl, by rw [hU], sg_pre hX hI.2.2 hA hU hW⟩⟩ rfl rfl hl.1 rfl (lv_room (Nat.le_of_ble_eq_true rfl)) rd_d38 ⟨by omega, by omega⟩) hI.2.2 (fun q h1 h2 => absurd h2 (by omega)) (fun q h => hA q (Nat.le_trans hI.2.2.1 h)) (fun r0 u t H1 locs1 ht hvm hw hB hz1 hk1 hS1 => ?_)
      subst hw
      have hP1 : va_P D gk_cl (Z f) H1 := hI.1.kept (fun k9 x9 hx9 => hk1 _ (hI.1 k9 x9 hx9).lt (by have := (hI.1 k9 x9 hx9).lt; omega))
      have hI : va_P D gk_cl (Z f) H1 ∧ va_D Ad (Z f) ∧ va_S Ad s.heap H1 locs1 := ⟨hP1, hI.2.1, hS1⟩
      have hrec : ∃ cell : Cell, H1[a]? = some cell ∧ cell.vm.isStatics = false ∧ s.vm.findClass "java/lang/String" = some cell.cls := by
        obtain ⟨cell, h1, h2, h3, -⟩ := hX.1.kept hI.2.2.2.1
        exact ⟨cell, h1, h2, h3⟩
      refine lv_icmp_ge (tgt := 99) hx hb rd_d41 rfl (fun h => absurd h (nI_ge (a := k) (b := sg_n) (by omega) (by omega))) (fun _ => ?_)
      refine va_ldcS hx hb hown hR rd_d44 ?_
      refine lv_iload_n hx hb rd_d46 rfl (lv_at hl 2 rfl) ?_
      refine va_calli (va_runV (C := "java/lang/String") (As := [.int (nI k)]) (rest := []) ⟨hx, hb, hml, hown, hts⟩ (sg_charAt l a v H1.size k hkn) ⟨callB_of 1 hts (rk_good gk_good (rk_mt 272 (by decide +kernel) rfl)) rfl rfl rfl (hts _ (rk_mt 223 (by decide +kernel) rfl)) (hts _ (rk_mt 269 (by decide +kernel) rfl)) ⟨(by decide +kernel), (by decide +kernel), (by decide +kernel)⟩ ⟨by show 4 + 1 ≤ R.frames; omega, by show 8 + (2 + 11) + 160 ≤ R.locals; omega⟩, hts _ (rk_mt 270 (by decide +kernel) rfl), hts _ (rk_mt 271 (by decide +kernel) rfl)⟩ ⟨sg_blind _ _ _ _, hrec, fun U hU hW => ⟨rfl, by rw [hU], sg_pre hX hI.2.2 hA hU hW⟩⟩ rfl rfl hl.1 rfl (lv_room (Nat.le_of_ble_eq_true rfl)) rd_d47 ⟨by omega, by omega⟩) hI.2.2 (fun q h1 h2 => absurd h2 (by omega)) (fun q h => hA q (Nat.le_trans hI.2.2.1 h)) (fun r1 u1 t1 H2 locs2 ht1 hvm1 hw1 hB1 hz2 hk2 hS2 => ?_)
      subst hw1
      have hP2 : va_P D gk_cl (Z f) H2 := hP1.kept (fun k9 x9 hx9 => hk2 _ (hP1 k9 x9 hx9).lt (by have := (hP1 k9 x9 hx9).lt; omega))
      have hI : va_P D gk_cl (Z f) H2 ∧ va_D Ad (Z f) ∧ va_S Ad s.heap H2 locs2 := ⟨hP2, hI.2.1, hS2⟩
      refine lv_istore_n hx hb rd_d50 rfl hl (by decide) rfl (fun ls2 hl2 => ?_)
      have hl2 : lv_has ls2 4 [(3, .int (sg_b.getD k 0)), (0, .ref h0), (1, .int (nI (rd k).1)), (2, .int (nI k))] := hl2
      have hat := rd_at k
      have nextk : ∀ (H3 : Heap) (locs3 : List Loc) (ls3 : Array Slot) (g : Nat → Int64), (va_P D gk_cl (Z g) H3 ∧ va_D Ad (Z g) ∧ va_S Ad s.heap H3 locs3) → (∀ i, g i = (rd (k + 1)).2.getD i 0) → lv_has ls3 4 [(0, .ref h0), (1, .int (nI (rd (k + 1)).1)), (2, .int (nI k))] → W p l e R s m args below meth c H3 locs3 nc ns Q (F0 m 93 ls3 []) := by
        intro H3 locs3 ls3 g hI3 hg hl3
        refine lv_iinc (v := nI (k + 1)) hx hb rd_d93 hl3 (k := 2) rfl (by rw [nI_succ k]; first | done | rfl) (by decide) rfl (fun ls4 hl4 => ?_)
        refine lv_goto (tgt := 35) hx hb rd_d96 rfl ?_
        exact ih (k + 1) (by omega) H3 locs3 ls4 g hI3 hg (lv_sub hl4 [1, 2, 0] rfl)
      refine lv_iload_n hx hb rd_d51 rfl (lv_at hl2 0 rfl) ?_
      refine lv_bipush (v := 32) hx hb rd_d52 (by decide +kernel) ?_
      refine lv_icmp_ne (tgt := 63) hx hb rd_d54 rfl (fun hne => ?_) (fun heq => ?_)
      · refine lv_iload_n hx hb rd_d63 rfl (lv_at hl2 2 rfl) ?_
        refine lv_bipush (v := nI 23) hx hb rd_d64 (by decide +kernel) ?_
        refine lv_icmp_ge (tgt := 93) hx hb rd_d66 rfl (fun hge => ?_) (fun hlt => ?_)
        · have h23 : ¬ (rd k).1 < 23 := fun h => absurd hge (nI_ge h (by omega))
          have e1 : rd (k + 1) = rd k := by
            show rd_step (rd k) (sg_b.getD k 0) = rd k
            unfold rd_step
            rw [if_neg hne, if_neg h23]
          exact nextk H2 locs2 ls2 f hI (by rw [e1]; exact hf) (by rw [e1]; exact lv_sub hl2 [1, 2, 3] rfl)
        · have h23 : (rd k).1 < 23 := Nat.lt_of_not_le (fun h => hlt (nI_le h (by omega)))
          have e1 : rd (k + 1) = ((rd k).1, (rd k).2.set (rd k).1 ((rd k).2.getD (rd k).1 0 * 32 + (sg_b.getD k 0 - 97 + 1).toInt64)) := by
            show rd_step (rd k) (sg_b.getD k 0) = _
            unfold rd_step
            rw [if_neg hne, if_pos h23]
          refine lv_aload_n hx hb rd_d69 rfl (lv_at hl2 1 rfl) ?_
          refine va_get (D := D) (ci := 8) (v := .ref q) (own := "GooseIce$Reader") (ref := "GooseIce$Reader") (index := 15) (C := gk_R8) (T := gk_T8) (N := 12) hx hb hts gk_u8 hown hK hI.1 j (hZj _) rfl 1 (by decide) (hts _ (rk_mt 309 (by decide +kernel) rfl)) (fun _ h9 => h9) hv rd_d70 ?_
          refine lv_iload_n hx hb rd_d73 rfl (lv_at hl2 2 rfl) ?_
          refine lv_aload_n hx hb rd_d74 rfl (lv_at hl2 1 rfl) ?_
          refine va_get (D := D) (ci := 8) (v := .ref q) (own := "GooseIce$Reader") (ref := "GooseIce$Reader") (index := 15) (C := gk_R8) (T := gk_T8) (N := 12) hx hb hts gk_u8 hown hK hI.1 j (hZj _) rfl 1 (by decide) (hts _ (rk_mt 309 (by decide +kernel) rfl)) (fun _ h9 => h9) hv rd_d75 ?_
          refine lv_iload_n hx hb rd_d78 rfl (lv_at hl2 2 rfl) ?_
          refine va_lald hx hb hK hI.1 kk 0 (hZk _) rfl (nI_in h23 (by decide)) rd_d79 ?_
          rw [nI_clamp (by omega), hf]
          refine W.ldc2 (v := 32) hx hb hown (hts _ (rk_mt 307 (by decide +kernel) rfl)) rfl rd_d80 ?_
          refine lv_lmul hx hb rd_d83 ?_
          refine lv_iload_n hx hb rd_d84 rfl (lv_at hl2 0 rfl) ?_
          refine lv_bipush (v := 97) hx hb rd_d85 (by decide +kernel) ?_
          refine lv_isub hx hb rd_d87 ?_
          refine lv_iconst (v := 1) hx hb rd_d88 (by decide +kernel) ?_
          refine lv_iadd hx hb rd_d89 ?_
          refine lv_i2l hx hb rd_d90 rfl ?_
          refine lv_ladd hx hb rd_d91 ?_
          refine va_last hx hb hK hI.1 hI.2.1 hI.2.2 kk 0 (hZk _) rfl (nI_in h23 (by decide)) rd_d92 (fun H3 locs3 hP3 hD3 hS3 => ?_)
          rw [hZs, nI_clamp (by omega)] at hP3 hD3
          refine nextk H3 locs3 ls2 _ ⟨hP3, hD3, hS3⟩ (fun i => ?_) (by rw [e1]; exact lv_sub hl2 [1, 2, 3] rfl)
          rw [e1]
          dsimp only
          by_cases hi : i = (rd k).1
          · subst hi
            rw [pk_uLs]
            generalize (rd k).2.getD (rd k).1 0 * 32 + (sg_b.getD k 0 - 97 + 1).toInt64 = V
            rw [List.getD_eq_getElem?_getD, List.getElem?_set_self (by rw [rd_len]; exact h23)]
            rfl
          · rw [pk_uLn hi, hf, List.getD_eq_getElem?_getD, List.getD_eq_getElem?_getD, List.getElem?_set_ne (Ne.symm hi)]
      · have heq : sg_b.getD k 0 = 32 := by
          first | exact heq | exact Decidable.not_not.mp heq
        have e1 : rd (k + 1) = ((rd k).1 + 1, (rd k).2) := by
          show rd_step (rd k) (sg_b.getD k 0) = _
          unfold rd_step
          rw [if_pos heq]
        refine lv_iinc (v := nI ((rd k).1 + 1)) hx hb rd_d57 hl2 (k := 2) rfl (by rw [nI_succ (rd k).1]; first | done | rfl) (by decide) rfl (fun ls3 hl3 => ?_)
        refine lv_goto (tgt := 93) hx hb rd_d60 rfl ?_
        exact nextk H2 locs2 ls3 f hI (by rw [e1]; exact hf) (by rw [e1]; exact lv_sub hl3 [2, 0, 3] rfl)
  exact loop 115 0 (by omega) H locs ls f0 (by rw [hZ0]; exact ⟨hP, hD, hS⟩) (fun i => by rw [hf0 i]; show (0 : Int64) = (List.replicate 23 (0 : Int64)).getD i 0; rw [List.getD_eq_getElem?_getD, List.getElem?_replicate]; split <;> rfl) hl
end RDB
end MH15_4
section MH15_5
/-! ===== the model's plain(slot): its loop ===== -/
theorem pl_d2 : decode gk_N202.2.2 2 = .ok (.iload_n 2, 1) := by decide +kernel
theorem pl_d3 : decode gk_N202.2.2 3 = .ok (.sipush 842, 3) := by decide +kernel
theorem pl_d6 : decode gk_N202.2.2 6 = .ok (.if_icmp .ge 18, 3) := by decide +kernel
theorem pl_d9 : decode gk_N202.2.2 9 = .ok (.aload_n 0, 1) := by decide +kernel
theorem pl_d10 : decode gk_N202.2.2 10 = .ok (.getfield 7, 3) := by decide +kernel
theorem pl_d13 : decode gk_N202.2.2 13 = .ok (.iload_n 1, 1) := by decide +kernel
theorem pl_d14 : decode gk_N202.2.2 14 = .ok (.iload_n 2, 1) := by decide +kernel
theorem pl_d15 : decode gk_N202.2.2 15 = .ok (.iadd, 1) := by decide +kernel
theorem pl_d16 : decode gk_N202.2.2 16 = .ok (.iconst 0, 1) := by decide +kernel
theorem pl_d17 : decode gk_N202.2.2 17 = .ok (.iastore, 1) := by decide +kernel
theorem pl_d18 : decode gk_N202.2.2 18 = .ok (.iinc 2 1, 3) := by decide +kernel
theorem pl_d21 : decode gk_N202.2.2 21 = .ok (.goto (-19), 3) := by decide +kernel
theorem rk_look_filter (d : rk_V) (p : Nat → Bool) (j : Nat) : ∀ ov : List (Nat × rk_V), rk_look d (ov.filter (fun z => p z.1)) j = if p j = true then rk_look d ov j else d
  | [] => by
    show d = _
    split <;> rfl
  | q :: r => by
    by_cases hq : p q.1 = true
    · rw [List.filter_cons_of_pos (p := fun z : Nat × rk_V => p z.1) hq]
      show (if q.1 = j then q.2 else rk_look d (r.filter (fun z => p z.1)) j) = if p j = true then (if q.1 = j then q.2 else rk_look d r j) else d
      by_cases e : q.1 = j
      · rw [if_pos e, if_pos e, if_pos (e ▸ hq)]
      · rw [if_neg e, if_neg e]
        exact rk_look_filter d p j r
    · rw [List.filter_cons_of_neg (p := fun z : Nat × rk_V => p z.1) hq, rk_look_filter d p j r]
      show (if p j = true then rk_look d r j else d) = if p j = true then (if q.1 = j then q.2 else rk_look d r j) else d
      by_cases hj : p j = true
      · rw [if_pos hj, if_pos hj, if_neg (show ¬ q.1 = j from fun e => hq (by rw [e]; exact hj))]
      · rw [if_neg hj, if_neg hj]
section PLB
variable {p : Program} {l : Launch} {e : Env} {R : Room} {s : State} {m : MethodId} {args : Array Value} {below : List Frame} {meth : Method} {c : Code} {Q : State → Prop} {D : va_G} {Ad : Nat → Prop}
set_option maxHeartbeats 4000000 in
theorem pl_body (hx : p.tables.exec = Jvm.exec) (hb : c.code = gk_N202.2.2) (hts : ∀ w ∈ gk_tbl, w.before args s = true) (hown : s.vm.findClass "GooseIceModel" = some m.cls) {cA : ClassId} (hK : va_K D gk_cl [(cA, .int)] s) {ws : va_W} {j kk h0 a S nc ns : Nat} {vs : List Value} {f0 : Nat → Int32} (hj : ws[j]? = some (h0, .inr (12, vs))) (hv : vs[0]? = some (.ref a)) (hk : ws[kk]? = some (a, .inl (cA, 5894, .inl f0))) (hS842 : S + 842 ≤ 5894) {H : Heap} {locs : List Loc} {ls : Array Slot} (hP : va_P D gk_cl ws H) (hD : va_D Ad ws) (hS : va_S Ad s.heap H locs) (hl : lv_has ls 3 [(0, .ref h0), (1, .int (nI S)), (2, .int (nI 0))])
    (kend : ∀ (H : Heap) (locs : List Loc) (ls : Array Slot) (f : Nat → Int32), va_P D gk_cl (ws.set kk (a, .inl (cA, 5894, .inl f))) H → va_D Ad (ws.set kk (a, .inl (cA, 5894, .inl f))) → va_S Ad s.heap H locs → (∀ i, f i = if S ≤ i ∧ i < S + 842 then 0 else f0 i) → lv_has ls 3 [(0, .ref h0), (1, .int (nI S))] → W p l e R s m args below meth c H locs nc ns Q (F0 m 24 ls [])) :
    W p l e R s m args below meth c H locs nc ns Q (F0 m 2 ls []) := by
  have hjk : kk ≠ j := by rintro rfl; rw [hj] at hk; cases hk
  have hkl : kk < ws.length := (List.getElem?_eq_some_iff.mp hk).1
  obtain ⟨Z, hZ⟩ : ∃ Z : (Nat → Int32) → va_W, ∀ f, Z f = ws.set kk (a, .inl (cA, 5894, .inl f)) := ⟨_, fun _ => rfl⟩
  have hZj : ∀ f, (Z f)[j]? = some (h0, .inr (12, vs)) := fun f => by rw [hZ, List.getElem?_set_ne hjk]; exact hj
  have hZk : ∀ f, (Z f)[kk]? = some (a, .inl (cA, 5894, .inl f)) := fun f => by rw [hZ, List.getElem?_set_self hkl]
  have hZs : ∀ f g, (Z f).set kk (a, .inl (cA, 5894, .inl g)) = Z g := fun f g => by rw [hZ, hZ, List.set_set]
  have hZ0 : Z f0 = ws := by
    rw [hZ]
    apply List.ext_getElem?
    intro i
    rw [List.getElem?_set]
    split
    · next z => subst z; first | exact hk.symm | (rw [if_pos hkl]; exact hk.symm)
    · rfl
  have loop : ∀ (r k : Nat), k + r = 842 → ∀ (H : Heap) (locs : List Loc) (ls : Array Slot) (f : Nat → Int32), (va_P D gk_cl (Z f) H ∧ va_D Ad (Z f) ∧ va_S Ad s.heap H locs) → (∀ i, f i = if S ≤ i ∧ i < S + k then 0 else f0 i) → lv_has ls 3 [(0, .ref h0), (1, .int (nI S)), (2, .int (nI k))] → W p l e R s m args below meth c H locs nc ns Q (F0 m 2 ls []) := by
    intro r
    induction r with
    | zero =>
      intro k hkr H locs ls f hI hf hl
      refine lv_iload_n hx hb pl_d2 rfl (lv_at hl 2 rfl) ?_
      refine lv_sipush (v := nI 842) hx hb pl_d3 (by decide +kernel) ?_
      refine lv_icmp_ge (tgt := 24) hx hb pl_d6 rfl (fun _ => ?_) (fun h => absurd (nI_le (by omega) (by omega)) h)
      rw [hZ] at hI
      exact kend H locs ls f hI.1 hI.2.1 hI.2.2 (fun i => by rw [hf i, show k = 842 by omega]) (lv_sub hl [0, 1] rfl)
    | succ r ih =>
      intro k hkr H locs ls f hI hf hl
      refine lv_iload_n hx hb pl_d2 rfl (lv_at hl 2 rfl) ?_
      refine lv_sipush (v := nI 842) hx hb pl_d3 (by decide +kernel) ?_
      refine lv_icmp_ge (tgt := 24) hx hb pl_d6 rfl (fun h => absurd h (nI_ge (by omega) (by omega))) (fun _ => ?_)
      refine lv_aload_n hx hb pl_d9 rfl (lv_at hl 0 rfl) ?_
      refine va_get (D := D) (ci := 12) (v := .ref a) (own := "GooseIceModel") (ref := "GooseIceModel") (index := 7) (C := gk_R12) (T := gk_T12) (N := 43) hx hb hts gk_u12 hown hK hI.1 j (hZj _) rfl 0 (by decide) (hts _ (rk_mt 1659 (by decide +kernel) rfl)) (fun _ h9 => h9) hv pl_d10 ?_
      refine lv_iload_n hx hb pl_d13 rfl (lv_at hl 1 rfl) ?_
      refine lv_iload_n hx hb pl_d14 rfl (lv_at hl 2 rfl) ?_
      refine lv_iadd hx hb pl_d15 ?_
      rw [nI_add]
      refine lv_iconst (v := 0) hx hb pl_d16 (by decide +kernel) ?_
      refine va_iast hx hb hK hI.1 hI.2.1 hI.2.2 kk 0 (hZk f) rfl (nI_in (show S + k < 5894 by omega) (by decide)) pl_d17 (fun H2 locs2 hP2 hD2 hS2 => ?_)
      rw [hZs, nI_clamp (by omega)] at hP2 hD2
      refine lv_iinc (v := nI (k + 1)) hx hb pl_d18 hl (k := 2) rfl (by rw [nI_succ k]; first | done | rfl) (by decide) rfl (fun ls2 hl2 => ?_)
      refine lv_goto (tgt := 2) hx hb pl_d21 rfl ?_
      refine ih (k + 1) (by omega) H2 locs2 ls2 _ ⟨hP2, hD2, hS2⟩ (fun i => ?_) (lv_sub hl2 [1, 2, 0] rfl)
      by_cases hi : i = S + k
      · subst hi
        rw [pk_us, if_pos (by omega)]
      · rw [pk_un hi, hf i]
        by_cases h9 : S ≤ i ∧ i < S + k
        · rw [if_pos h9, if_pos (by omega)]
        · rw [if_neg h9, if_neg (by omega)]
  exact loop 842 0 (by omega) H locs ls f0 (by rw [hZ0]; exact ⟨hP, hD, hS⟩) (fun i => by rw [if_neg (by omega)]) hl
end PLB
end MH15_5
section MH15_6
/-! ===== what else a frame knows: the class's one text; sums for the executor ===== -/
def sg_t : String := "ice bears shore way beside walker weighs at worse hour better send to step frost thaw any when in wet loop end stop"
def gk_xt : rk_XT := fun vals Ad U H => ∃ a v, vals[8]? = some (.ref a) ∧ sg_X a v Ad U H ∧ vk_R "GooseIce$Reader" 26 sg_t a U
theorem gk_xtok : rk_xtok gk_xt := by
  refine ⟨?_, ?_, ?_, ?_⟩
  · rintro vals k Ad U H ⟨a, v, h1, h2, h3⟩
    exact ⟨a, v, by rw [List.getElem?_append_left (List.getElem?_eq_some_iff.mp h1).1]; exact h1, h2, h3⟩
  · rintro vals Ad s U H hv ⟨a, v, h1, h2, h3⟩
    exact ⟨a, v, h1, h2.moved (by rw [hv]; exact Vm.Alike.refl _), vk_R.same hv.symm h3⟩
  · rintro vals Ad s U H hW ⟨a, v, h1, h2, h3⟩
    exact ⟨a, v, h1, h2.moved hW.alike, vk_R.warm hW h3⟩
  · rintro vals Ad B U H H1 ⟨a, v, h1, h2, h3⟩ hk hAB
    exact ⟨a, v, h1, (h2.kept hk).narrow hAB, h3⟩
theorem rk_look_app (d : rk_V) (ov : List (Nat × rk_V)) (j : Nat) : ∀ l : List (Nat × rk_V), (∃ v, (j, v) ∈ l ∧ rk_look d (l ++ ov) j = v) ∨ ((∀ v, (j, v) ∉ l) ∧ rk_look d (l ++ ov) j = rk_look d ov j) := by
  intro l
  induction l with
  | nil => exact Or.inr ⟨fun v h => (by cases h), rfl⟩
  | cons q l ih =>
    by_cases e : q.1 = j
    · refine Or.inl ⟨q.2, by rw [← e]; exact List.mem_cons_self, ?_⟩
      show (if q.1 = j then q.2 else rk_look d (l ++ ov) j) = q.2
      rw [if_pos e]
    · have e2 : rk_look d (q :: l ++ ov) j = rk_look d (l ++ ov) j := by
        show (if q.1 = j then q.2 else rk_look d (l ++ ov) j) = _
        rw [if_neg e]
      rw [e2]
      rcases ih with ⟨v, h1, h2⟩ | ⟨h1, h2⟩
      · exact Or.inl ⟨v, List.mem_cons_of_mem _ h1, h2⟩
      · refine Or.inr ⟨fun v hv => ?_, h2⟩
        rcases List.mem_cons.mp hv with h | h
        · exact e (by rw [← h])
        · exact h1 v h
section RKZ
variable {p : Program} {l : Launch} {e : Env} {R : Room} {s : State} {m : MethodId} {args : Array Value} {below : List Frame} {meth : Method} {c : Code} {Q : State → Prop} {cc : ByteArray} {D : va_G} {Ad : Nat → Prop} {nL : Nat} {vals0 : List Value} {ads0 : List Nat} {lk : List (Nat × Nat × Nat × Nat)} {cs : List (Nat × Value)}
theorem rd_115 : (rd 115).2 = rd_lits := by decide +kernel
theorem rd_look (j : Nat) : rk_look (.inl (.long 0)) rd_ov j = .inl (.long ((rd 115).2.getD j 0)) := by
  rw [rd_115]
  by_cases h : j < 23
  · exact of_decide_eq_true (List.all_eq_true.mp (show (List.range 23).all (fun j => decide (rk_look (.inl (.long 0)) rd_ov j = .inl (.long (rd_lits.getD j 0)))) = true from by decide +kernel) j (List.mem_range.mpr h))
  · have hall : rd_ov.all (fun z => decide (z.1 < 23)) = true := by decide +kernel
    have e1 : rd_lits.getD j 0 = 0 := by
      rw [List.getD_eq_getElem?_getD, List.getElem?_eq_none (by show 23 ≤ j; omega)]
      rfl
    rw [e1]
    rcases rk_look_app (.inl (.long 0)) [] j rd_ov with ⟨v, hm, -⟩ | ⟨-, e⟩
    · exact absurd (of_decide_eq_true (List.all_eq_true.mp hall _ hm)) h
    · rw [List.append_nil] at e
      exact e
set_option maxHeartbeats 4000000 in
theorem rk_rdx_ok (hx : p.tables.exec = Jvm.exec) (hb : c.code = gk_N99.2.2) (hml : c.maxLocals = 4) (hF : rk_Fr s m args meth D gk_cl Ad gk_tbl gk_xw gk_fty gk_cln "GooseIce$Reader" lk cs) (hXt : gk_xt vals0 Ad s s.heap) (hfr : 5 ≤ R.frames) (hlo : 200 ≤ R.locals) (pc : Nat) (ins : Instr) (st : rk_S) (res : List (Nat × rk_S)) (h : rk_rdx pc ins st = some res) (hroom : ∀ q ∈ res, q.2.2.2.2.2.1 ≤ R.cells ∧ q.2.2.2.2.2.2 ≤ R.slots) (kk : ∀ q ∈ res, rk_W (rk_KW p l e R s m args below meth c Q) s D gk_cl Ad 4 vals0 ads0 q.1 q.2) : rk_W (rk_KW p l e R s m args below meth c Q) s D gk_cl Ad 4 vals0 ads0 pc st := by
  obtain ⟨lo, sk, env, hp, nc, ns⟩ := st
  obtain ⟨hts, hxw, hown, hK, hA, -⟩ := hF
  obtain ⟨a, v, e8, hX, hR⟩ := hXt
  intro vals ws H locs ls stk lc hG hl hL hS
  dsimp only at hG hL hS ⊢
  unfold rk_rdx at h
  dsimp only at h
  split at h
  · next hpc =>
    subst hpc
    split at h
    · next x2 x1 j =>
      split at h
      · next hx12 =>
        split at h
        · next ob hj =>
          split at h
          · next h8 =>
            split at h
            · next k hk1 =>
              split at h
              · next nn dd ov hk =>
                split at h
                · next hc =>
                  cases h
                  obtain ⟨rfl, hov, rfl⟩ := hc
                  have hov2 : ov = [] := List.isEmpty_iff.mp hov
                  subst hov2
                  obtain ⟨rfl, rfl⟩ := hx12
                  have hrm := hroom _ (List.mem_singleton.mpr rfl)
                  obtain ⟨l2, k2, rfl, ⟨d2, g2⟩, hL1⟩ := hL.cons
                  obtain ⟨l1, k1, rfl, ⟨d1, g1⟩, hL0⟩ := hL1.cons
                  obtain ⟨l0, k0, rfl, ⟨d0, x, hjx, g0⟩, hLn⟩ := hL0.cons
                  have hnil := hLn.nil
                  subst hnil
                  have hstk := hS.nil
                  subst hstk
                  obtain ⟨l2a, l2b⟩ := l2
                  obtain ⟨l1a, l1b⟩ := l1
                  obtain ⟨l0a, l0b⟩ := l0
                  dsimp only at d2 d1 d0 g2 g1 g0
                  subst d2 d1 d0
                  have g2 : l2b = .int 0 := g2
                  have g1 : l1b = .int 0 := g1
                  subst g2 g1 g0
                  obtain ⟨e1, hw1, vs, ev, hvs⟩ := hG.cell hj hjx
                  obtain ⟨w1, hw1v, q, hq, rfl⟩ := hvs.get hk1
                  obtain ⟨e2, hw2, cA, hA1, hA2, f0, ef, hf⟩ := hG.cell hk hq
                  rw [ev, h8] at hw1
                  rw [ef] at hw2
                  dsimp only at hw2 hf
                  have hz : (0 : Int32) = nI 0 := by decide
                  refine rd_body (D := D) (Ad := Ad) (j := j) (kk := k) hx hb hml hts hown (rk_K1 hK hA1 hA2) hA hX hR hfr hlo hrm.1 hrm.2 hw1 hw1v hw2 (fun i => by have := hf i; exact Value.long.inj (show Value.long (f0 i) = Value.long 0 from this)) hG.2.2.1 hG.2.2.2.1 hG.2.2.2.2.1 (by rw [← hz]; exact lv_sub hl [2, 1, 0] rfl) (fun H1 locs1 ls1 f hP1 hD1 hS1 hf1 hl1 => ?_)
                  have hG1 := hG.setc (c' := .inr (.long, 23, .inl (.long 0), rd_ov)) hw2 hP1 hD1 hS1 ⟨cA, hA1, hA2, f, rfl, fun i => by
                    show rk_g vals (ws.map Prod.fst) (rk_look (.inl (.long 0)) rd_ov i) (.long (f i))
                    rw [rd_look, hf1 i]
                    rfl⟩
                  refine kk _ (List.mem_singleton.mpr rfl) vals _ H1 locs1 ls1 [] _ hG1 hl1 ⟨⟨rfl, x, ?_, rfl⟩, trivial⟩ trivial
                  rw [rk_map_set hw2]
                  exact hjx
                · cases h
              · cases h
            · cases h
          · cases h
        · cases h
      · cases h
    · cases h
  · cases h
set_option maxHeartbeats 4000000 in
theorem rk_plx_ok (hx : p.tables.exec = Jvm.exec) (hb : c.code = gk_N202.2.2) (hF : rk_Fr s m args meth D gk_cl Ad gk_tbl gk_xw gk_fty gk_cln "GooseIceModel" lk cs) (pc : Nat) (ins : Instr) (st : rk_S) (res : List (Nat × rk_S)) (h : rk_plx pc ins st = some res) (kk : ∀ q ∈ res, rk_W (rk_KW p l e R s m args below meth c Q) s D gk_cl Ad 3 vals0 ads0 q.1 q.2) : rk_W (rk_KW p l e R s m args below meth c Q) s D gk_cl Ad 3 vals0 ads0 pc st := by
  obtain ⟨lo, sk, env, hp, nc, ns⟩ := st
  obtain ⟨hts, hxw, hown, hK, hA, -⟩ := hF
  intro vals ws H locs ls stk lc hG hl hL hS
  dsimp only at hG hL hS ⊢
  unfold rk_plx at h
  dsimp only at h
  split at h
  · next hpc =>
    subst hpc
    split at h
    · next x2 j sv =>
      split at h
      · next hx2 =>
        split at h
        · next ob hj =>
          split at h
          · next h12 =>
            split at h
            · next k hk1 =>
              split at h
              · next nn dd ov hk =>
                split at h
                · next hc =>
                  cases h
                  obtain ⟨rfl, rfl⟩ := hc
                  obtain ⟨rfl, hs0, hs1⟩ := hx2
                  obtain ⟨S, hSb, rfl⟩ := nI_of (x := sv) (by rw [Int32.lt_iff_toInt_lt, Int32.toInt_zero]; omega)
                  have hSt := nI_toInt hSb
                  rw [hSt] at hs0 hs1
                  have hSn : (nI S).toInt.toNat = S := by rw [hSt]; omega
                  obtain ⟨l2, k2, rfl, ⟨d2, g2⟩, hL1⟩ := hL.cons
                  obtain ⟨l0, k0, rfl, ⟨d0, x, hjx, g0⟩, hL0⟩ := hL1.cons
                  obtain ⟨l1, k1, rfl, ⟨d1, g1⟩, hLn⟩ := hL0.cons
                  have hnil := hLn.nil
                  subst hnil
                  have hstk := hS.nil
                  subst hstk
                  obtain ⟨l2a, l2b⟩ := l2
                  obtain ⟨l1a, l1b⟩ := l1
                  obtain ⟨l0a, l0b⟩ := l0
                  dsimp only at d2 d1 d0 g2 g1 g0
                  subst d2 d1 d0
                  have g2 : l2b = .int 0 := g2
                  have g1 : l1b = .int (nI S) := g1
                  subst g2 g1 g0
                  obtain ⟨e1, hw1, vs, ev, hvs⟩ := hG.cell hj hjx
                  obtain ⟨w1, hw1v, q, hq, rfl⟩ := hvs.get hk1
                  obtain ⟨e2, hw2, cA, hA1, hA2, f0, ef, hf⟩ := hG.cell hk hq
                  rw [ev, h12] at hw1
                  rw [ef] at hw2
                  dsimp only at hw2 hf
                  have hz : (0 : Int32) = nI 0 := by decide
                  refine pl_body (D := D) (Ad := Ad) (j := j) (kk := k) (S := S) hx hb hts hown (rk_K1 hK hA1 hA2) hw1 hw1v hw2 (by omega) hG.2.2.1 hG.2.2.2.1 hG.2.2.2.2.1 (by rw [← hz]; exact lv_sub hl [1, 2, 0] rfl) (fun H1 locs1 ls1 f hP1 hD1 hS1 hf1 hl1 => ?_)
                  have hG1 := hG.setc (c' := .inr (.int, 5894, .inl (.int 0), ov.filter (fun z => decide (z.1 < (nI S).toInt.toNat) || decide ((nI S).toInt.toNat + 842 ≤ z.1)))) hw2 hP1 hD1 hS1 ⟨cA, hA1, hA2, f, rfl, fun i => by
                    show rk_g vals (ws.map Prod.fst) (rk_look (.inl (.int 0)) (ov.filter (fun z => decide (z.1 < (nI S).toInt.toNat) || decide ((nI S).toInt.toNat + 842 ≤ z.1))) i) (.int (f i))
                    rw [hSn, rk_look_filter (.inl (.int 0)) (fun i => decide (i < S) || decide (S + 842 ≤ i)) i ov, hf1 i]
                    by_cases h9 : S ≤ i ∧ i < S + 842
                    · rw [if_pos h9, if_neg (by simp; omega)]
                      rfl
                    · rw [if_neg h9, if_pos (by simp; omega)]
                      exact hf i⟩
                  refine kk _ (List.mem_singleton.mpr rfl) vals _ H1 locs1 ls1 [] _ hG1 hl1 ⟨⟨rfl, x, ?_, rfl⟩, ⟨rfl, rfl⟩, trivial⟩ trivial
                  rw [rk_map_set hw2]
                  exact hjx
                · cases h
              · cases h
            · cases h
          · cases h
        · cases h
      · cases h
    · cases h
  · cases h
end RKZ
theorem tg_ov_ok {vals : List Value} {ads : List Nat} {d : rk_V} {ov : List (Nat × rk_V)} {f f0 : Nat → Int32} {b n : Nat} (h : ∀ j, rk_g vals ads (rk_look d ov j) (.int (f0 j))) (h1 : ∀ k t, k ≤ b → t ≤ n → f (61 * k + t) = nI (tg k t)) (h2 : ∀ i, (∀ k t, k ≤ b → t ≤ n → i ≠ 61 * k + t) → f i = f0 i) (j : Nat) : rk_g vals ads (rk_look d (tg_ov b n ++ ov) j) (.int (f j)) := by
  rcases rk_look_app d ov j (tg_ov b n) with ⟨v, hm, e⟩ | ⟨hm, e⟩
  · rw [e]
    obtain ⟨k, hk, hm⟩ := List.mem_flatMap.mp hm
    obtain ⟨t, ht, hm⟩ := List.mem_map.mp hm
    cases hm
    show Value.int (f (61 * k + t)) = Value.int (nI (tg k t))
    rw [h1 k t (by have := List.mem_range.mp hk; omega) (by have := List.mem_range.mp ht; omega)]
  · rw [e, h2 j (fun k t hk ht e9 => hm (.inl (.int (nI (tg k t)))) (List.mem_flatMap.mpr ⟨k, List.mem_range.mpr (by omega), List.mem_map.mpr ⟨t, List.mem_range.mpr (by omega), by rw [e9]⟩⟩))]
    exact h j
set_option maxHeartbeats 4000000 in
theorem gk_ts_ok (l : Launch) (D : va_G) (d : Nat) (hd : 4 ≤ d) (as : List rk_V) (env : List rk_T) (hp : List rk_H) (o : rk_O) (h : gk_ts as env hp = some o) (vals : List Value) (ws : va_W) (av : List Value) (sz : Nat) (hE : rk_E env vals) (hA2 : rk_A2 (rk_g vals (ws.map Prod.fst)) as av) : Met l gk_N344.2.1 (Jvm.Cond.code gk_N344.2.1 gk_N344.2.2 gk_m344.2.1 gk_m344.2.2.2.2.1 :: gk_tbl) { frames := d + 1, cells := o.1, slots := o.2.1, locals := 40 * (d + 1) } (rk_Pre D gk_cl gk_xw gk_xt vals ws hp sz av) (rk_Post D gk_cl o.2.2 vals (ws.map Prod.fst) (va_A ws sz)) o.1 o.2.1 (va_A ws sz) := by
  unfold gk_ts at h
  split at h
  · next j an ab =>
    split at h
    · next ob hj =>
      split at h
      · next h12 =>
        split at h
        · next k hk32 =>
          split at h
          · next nn dd ov hk =>
            split at h
            · next h427 =>
              split at h
              · next I J hI hJ =>
                split at h
                · next hc =>
                  cases h
                  obtain ⟨va, k0, rfl, ⟨h0, hh0, rfl⟩, hA3⟩ := hA2.cons
                  obtain ⟨v1, k1, rfl, g1, hA4⟩ := hA3.cons
                  obtain ⟨v2, k2, rfl, g2, hA5⟩ := hA4.cons
                  have hk2 := hA5.nil
                  subst hk2
                  obtain ⟨x1, rfl, a1, a2⟩ := rk_iv_ok hE g1 hI
                  obtain ⟨x2, rfl, b1, b2⟩ := rk_iv_ok hE g2 hJ
                  obtain ⟨n, hn1, rfl⟩ := nI_of (x := x1) (by rw [Int32.lt_iff_toInt_lt, Int32.toInt_zero]; omega)
                  obtain ⟨b, hb1, rfl⟩ := nI_of (x := x2) (by rw [Int32.lt_iff_toInt_lt, Int32.toInt_zero]; omega)
                  rw [nI_toInt hn1] at a1 a2
                  rw [nI_toInt hb1] at b1 b2
                  refine Met.ofW (cc := gk_N344.2.2) (maxL := 6) (ret := some .int) (by decide +kernel) rfl ?_
                  intro p e s m args below meth c s₁ B hml hv0
                  obtain ⟨rfl, hsz, hP, hK, hD0, hC, hxw, hXt⟩ := hv0
                  have hx := B.exec
                  have hb := B.bytes
                  have hr := B.returns
                  have hlocks := B.notSynchronized
                  have hts : ∀ w ∈ gk_tbl, w.before ([Value.ref h0, .int (nI n), .int (nI b)].toArray) s = true := fun w hw => atoms_spec (ws := Jvm.Cond.code gk_N344.2.1 gk_N344.2.2 gk_m344.2.1 gk_m344.2.2.2.2.1 :: gk_tbl) B.pre w (List.mem_cons_of_mem _ hw)
                  have hown : s.vm.findClass "GooseIceModel" = some m.cls := findClass_of_methodNamed B.named
                  subst hsz
                  obtain ⟨q1, hq1, hrc1⟩ := hC.get hj
                  have eq1 : q1 = (h0, q1.2) := by
                    rw [List.getElem?_map, hq1] at hh0
                    cases hh0
                    rfl
                  obtain ⟨vs, ev, hvs⟩ := hrc1
                  obtain ⟨w32, hw32, a, ha, rfl⟩ := hvs.get hk32
                  obtain ⟨q2, hq2, cA, hA1, hA2', f0, ef, hf⟩ := hC.get hk
                  have eq2 : q2 = (a, q2.2) := by
                    rw [List.getElem?_map, hq2] at ha
                    cases ha
                    rfl
                  rw [eq1, ev, h12] at hq1
                  dsimp only at ef hf
                  rw [eq2, ef, h427] at hq2
                  have hl := lv_entry ([Value.ref h0, .int (nI n), .int (nI b)]) (n := 6) (Nat.le_of_ble_eq_true rfl)
                  rw [lg_entry_eq]
                  have hD : va_D (va_A ws s.heap.size) ws := hD0.self
                  refine tg_body (D := D) (Ad := va_A ws s.heap.size) (j := j) (kk := k) (n := n) (b := b) hx hb hml hts hown (rk_K1 hK hA1 hA2') (fun q hq => Or.inr hq) (by show 2 ≤ d + 1; omega) (by show 80 ≤ 40 * (d + 1); omega) hq1 hw32 hq2 (by omega) (by omega) hP hD va_S.rf hl (fun H locs ls f hP1 hD1 hS1 hf1 hf2 => ?_)
                  have hcut1 := rk_cut_ok (lo := I.1 + ((n - I.1.toNat : Nat) : Int)) (hi := I.1 + ((n - I.1.toNat : Nat) : Int)) hE g1 (by rw [nI_toInt hn1]; omega) (by rw [nI_toInt hn1]; omega)
                  obtain ⟨e1, c1, hE1⟩ := hcut1
                  obtain ⟨e2, c2, hE2⟩ := rk_cut_ok (lo := J.1 + ((b - J.1.toNat : Nat) : Int)) (hi := J.1 + ((b - J.1.toNat : Nat) : Int)) hE1 g2 (by rw [nI_toInt hb1]; omega) (by rw [nI_toInt hb1]; omega)
                  have en : (I.1 + ((n - I.1.toNat : Nat) : Int)).toNat = n := by omega
                  have eb : (J.1 + ((b - J.1.toNat : Nat) : Int)).toNat = b := by omega
                  have hmem : ((some (.inl (.int (nI (tg b n)))), e2, hp.set k (.inr (.int, 427, dd, tg_ov b n ++ ov)), 0, 0) : rk_X) ∈ (List.range (I.2 - I.1 + 1).toNat).flatMap (fun x => (List.range (J.2 - J.1 + 1).toNat).flatMap (fun y => gk_tx hp k dd ov env an ab I.1 J.1 x y)) := by
                    refine List.mem_flatMap.mpr ⟨n - I.1.toNat, List.mem_range.mpr (by omega), List.mem_flatMap.mpr ⟨b - J.1.toNat, List.mem_range.mpr (by omega), ?_⟩⟩
                    unfold gk_tx
                    rw [c1, Option.bind_some, c2, en, eb]
                    exact List.mem_singleton.mpr rfl
                  refine W.iret (v := nI (tg b n)) hx hb hr (fun t9 ht9 hW => ?_) hS1.2.2 tg_d344_119
                  have hsetA : (ws.set k (a, (.inl (cA, 427, .inl f) : va_E))).map Prod.fst = ws.map Prod.fst := rk_map_set hq2
                  refine ⟨⟨_, hmem, vals, ws.set k (a, .inl (cA, 427, .inl f)), ⟨[], by simp⟩, ⟨[], by rw [hsetA]; simp⟩, hE2, ?_, by rw [ht9]; exact hP1, hD1, _, rfl, rfl⟩, hS1.F ht9⟩
                  rw [hsetA]
                  have hmv : rk_A2 (fun (c : rk_H) (q : Nat × va_E) => rk_c t9 vals (ws.map Prod.fst) c q.2) hp ws := hC.mono (fun _ _ h => h.moved hW.alike)
                  have hcell : rk_c t9 vals (ws.map Prod.fst) (.inr (.int, 427, dd, tg_ov b n ++ ov)) (.inl (cA, 427, .inl f)) := ⟨cA, arrOfT_moved hW.alike hA1, hA2'.moved hW.alike, f, rfl, fun jj => tg_ov_ok hf hf1 hf2 jj⟩
                  exact rk_A2.set (R := fun (c : rk_H) (q : Nat × va_E) => rk_c t9 vals (ws.map Prod.fst) c q.2) (a := .inr (.int, 427, dd, tg_ov b n ++ ov)) (b := (a, .inl (cA, 427, .inl f))) hcell hmv k
                · cases h
              · cases h
            · cases h
          · cases h
        · cases h
      · cases h
    · cases h
  · cases h
set_option maxHeartbeats 4000000 in
theorem gk_sum_ok (l : Launch) (D : va_G) (d : Nat) : rk_SC l D gk_cl gk_tbl gk_xw gk_xt gk_MN gk_P (d + 1) (gk_sum d) := by
  intro f as env hp o h q hq
  unfold gk_sum at h
  split at h
  · next hd =>
    split at h
    · next hf =>
      subst hf
      have e : q = gk_N344 := Option.some.inj (hq.symm.trans (by rfl : gk_MN[344]? = some gk_N344))
      subst e
      exact ⟨gk_m344, (by rfl : gk_P[344]? = some gk_m344), by decide, fun vals ws av sz hE hA2 => gk_ts_ok l D d hd as env hp o h vals ws av sz hE hA2⟩
    · split at h
      · next hf =>
        subst hf
        split at h
        · next hsm =>
          have e : q = gk_N99 := Option.some.inj (hq.symm.trans (by rfl : gk_MN[99]? = some gk_N99))
          subst e
          have hM : gk_P[99]? = some gk_m99 := by rfl
          refine ⟨gk_m99, hM, by decide, fun vals ws av sz hE hA2 => ?_⟩
          obtain ⟨hgw, hxo, hcl, hac, hlenM, hmok, hmci⟩ := id gk_rok
          obtain ⟨m1, m2, m3, m4, m5, m6, m7, m8, m9⟩ := hmok 99 gk_N99 gk_m99 hq hM
          refine Met.ofW (cc := gk_N99.2.2) (maxL := gk_m99.2.1) (ret := gk_m99.2.2.2.2.1) m1 rfl ?_
          intro p e s m args below meth c s₁ B hml hv
          obtain ⟨rfl, hsz, hP, hK, hD0, hC, hxw, hXt⟩ := hv
          have hts0 := atoms_spec (ws := Jvm.Cond.code gk_N99.2.1 gk_N99.2.2 gk_m99.2.1 gk_m99.2.2.2.2.1 :: gk_tbl) B.pre
          have hts : ∀ w ∈ gk_tbl, w.before av.toArray s = true := fun w hw => hts0 w (List.mem_cons_of_mem _ hw)
          have hown : s.vm.findClass gk_N99.1 = some m.cls := by rw [← m2]; exact findClass_of_methodNamed B.named
          have hnm : meth.name = gk_N99.2.1.name := (name_of_methodNamed B.named B.method).1
          subst hsz
          have hF : rk_Fr s m av.toArray meth D gk_cl (va_A ws s.heap.size) gk_tbl gk_xw gk_fty gk_cln gk_N99.1 gk_m99.2.2.1 gk_m99.2.2.2.1 := ⟨hts, hxw, hown, hK, fun z hz => Or.inr hz, hcl, fun r hr => (m7 r hr).1, fun hz => by rw [hnm]; exact m8 hz, hac, m9⟩
          have key := rk_loop_ok (l := l) (p := p) (e := e) (R := (headSpec (Jvm.Cond.code gk_N99.2.1 gk_N99.2.2 gk_m99.2.1 gk_m99.2.2.2.2.1 :: gk_tbl) { frames := d + 1, cells := o.1, slots := o.2.1, locals := 40 * (d + 1) }).room) (below := below) (vals0 := vals) (ads0 := ws.map Prod.fst) (d := d) (call := fun _ _ _ _ => none) gk_xtok hXt gk_rok B.exec B.bytes hml m6 hF (fun r hr => (m7 r hr).2.1) (fun r hr => (m7 r hr).2.2) (fun _ _ _ _ _ z => by cases z) (ext := rk_rdx) (fun pc ins len st res a1 a2 a3 a4 a5 => rk_rdx_ok B.exec B.bytes hml hF hXt (by show 5 ≤ d + 1; omega) (by show 200 ≤ 40 * (d + 1); omega) pc ins st res a3 a4 a5) (Nat.le_refl _) (Nat.le_refl _) (XS := o.2.2) (fun pc ins len st x a1 a2 a3 a4 a5 a6 => rk_end_ok B.exec B.bytes B.notSynchronized B.returns a1 a2 a3 a4 a5 a6) 200 _ o h (fun x hx => hx) (Nat.le_refl _) (Nat.le_refl _)
          have hlen : (lg_sl av).length ≤ gk_m99.2.1 := by
            rw [rk_lgsl, ← rk_sum_ok hE hA2]
            exact hsm
          have hl := lv_entry av (n := gk_m99.2.1) hlen
          rw [lg_entry_eq]
          exact key vals ws s.heap [] _ [] _ ⟨hE, hC, hP, hD0.self, va_S.rf, ⟨[], by simp⟩, ⟨[], by simp⟩⟩ hl (rk_args_ok hE 0 hA2) trivial
        · cases h
      · split at h
        · next hf =>
          subst hf
          split at h
          · next hsm =>
            have e : q = gk_N202 := Option.some.inj (hq.symm.trans (by rfl : gk_MN[202]? = some gk_N202))
            subst e
            have hM : gk_P[202]? = some gk_m202 := by rfl
            refine ⟨gk_m202, hM, by decide, fun vals ws av sz hE hA2 => ?_⟩
            obtain ⟨hgw, hxo, hcl, hac, hlenM, hmok, hmci⟩ := id gk_rok
            obtain ⟨m1, m2, m3, m4, m5, m6, m7, m8, m9⟩ := hmok 202 gk_N202 gk_m202 hq hM
            refine Met.ofW (cc := gk_N202.2.2) (maxL := gk_m202.2.1) (ret := gk_m202.2.2.2.2.1) m1 rfl ?_
            intro p e s m args below meth c s₁ B hml hv
            obtain ⟨rfl, hsz, hP, hK, hD0, hC, hxw, hXt⟩ := hv
            have hts0 := atoms_spec (ws := Jvm.Cond.code gk_N202.2.1 gk_N202.2.2 gk_m202.2.1 gk_m202.2.2.2.2.1 :: gk_tbl) B.pre
            have hts : ∀ w ∈ gk_tbl, w.before av.toArray s = true := fun w hw => hts0 w (List.mem_cons_of_mem _ hw)
            have hown : s.vm.findClass gk_N202.1 = some m.cls := by rw [← m2]; exact findClass_of_methodNamed B.named
            have hnm : meth.name = gk_N202.2.1.name := (name_of_methodNamed B.named B.method).1
            subst hsz
            have hF : rk_Fr s m av.toArray meth D gk_cl (va_A ws s.heap.size) gk_tbl gk_xw gk_fty gk_cln gk_N202.1 gk_m202.2.2.1 gk_m202.2.2.2.1 := ⟨hts, hxw, hown, hK, fun z hz => Or.inr hz, hcl, fun r hr => (m7 r hr).1, fun hz => by rw [hnm]; exact m8 hz, hac, m9⟩
            have key := rk_loop_ok (l := l) (p := p) (e := e) (R := (headSpec (Jvm.Cond.code gk_N202.2.1 gk_N202.2.2 gk_m202.2.1 gk_m202.2.2.2.2.1 :: gk_tbl) { frames := d + 1, cells := o.1, slots := o.2.1, locals := 40 * (d + 1) }).room) (below := below) (vals0 := vals) (ads0 := ws.map Prod.fst) (d := d) (call := fun _ _ _ _ => none) gk_xtok hXt gk_rok B.exec B.bytes hml m6 hF (fun r hr => (m7 r hr).2.1) (fun r hr => (m7 r hr).2.2) (fun _ _ _ _ _ z => by cases z) (ext := rk_plx) (fun pc ins len st res a1 a2 a3 a4 a5 => rk_plx_ok B.exec B.bytes hF pc ins st res a3 a5) (Nat.le_refl _) (Nat.le_refl _) (XS := o.2.2) (fun pc ins len st x a1 a2 a3 a4 a5 a6 => rk_end_ok B.exec B.bytes B.notSynchronized B.returns a1 a2 a3 a4 a5 a6) 200 _ o h (fun x hx => hx) (Nat.le_refl _) (Nat.le_refl _)
            have hlen : (lg_sl av).length ≤ gk_m202.2.1 := by
              rw [rk_lgsl, ← rk_sum_ok hE hA2]
              exact hsm
            have hl := lv_entry av (n := gk_m202.2.1) hlen
            rw [lg_entry_eq]
            exact key vals ws s.heap [] _ [] _ ⟨hE, hC, hP, hD0.self, va_S.rf, ⟨[], by simp⟩, ⟨[], by simp⟩⟩ hl (rk_args_ok hE 0 hA2) trivial
          · cases h
        · cases h
  · cases h
end MH15_6
