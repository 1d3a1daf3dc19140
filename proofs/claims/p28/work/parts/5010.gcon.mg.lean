section MH29_0
section GN10
variable {l : Launch} {D : va_G} {xt : tk_XT} {ro : Nat → Nat → Int → Prop} {ads tw : List Nat}
/-- GooseIceModel.triedAt -/
def gn_K48 : tk_K := (345, [(2, 0, 0, 0), (0, 1, 1, 0), (0, 2, 1, 0), (0, 3, 1, 0)], ([(0, 60), (1, 6), (1, 60)], []), [0], [], ([(some (0, 4, 1, 0), ([(0, 60), (1, 6), (1, 60), (1, 1000001)], []), [0], [])], []))
def gn_H48 : List tk_Hd := []
theorem gn_48 (hU : gm_U tw) (hxt : tk_xtok xt) : tk_KS l D gk_cl gk_tbl gk_xw xt gk_MN gk_P gm_TY ro (gm_X tw) ads tw 1 gn_K48 := tk_contract (hk := tk_hk0) tk_hk0_ok (gm_xs hU) hxt gk_rok [] 20000 0 0 (Ks := []) (d := 0) (fun _ h => absurd h List.not_mem_nil) (Hs := gn_H48) (by decide +kernel) rfl
/-- GooseIceModel.trialsOf -/
def gn_K49 : tk_K := (344, [(2, 0, 0, 0), (0, 1, 1, 0), (0, 2, 1, 0)], ([(0, 60), (1, 6)], []), [0], [], ([(some (0, 3, 1, 0), ([(0, 60), (1, 6), (0, 1000000)], []), [0], [])], [(15, 0)]))
def gn_H49 : List tk_Hd := [(2, [(0, (2, 0, 0, 0)), (1, (0, 1, 1, 0)), (2, (0, 2, 1, 0)), (3, (0, 3, 1, 0))], ([(0, 60), (1, 6), (0, 7)], []), [0], [], [(0, 0, (0, 0, 0, 0)), (1, 7, (0, 3, 1, 0)), (0, 1, (0, 0, 0, 0)), (0, 0, (0, 0, 0, 0)), (0, 0, (0, 0, 0, 0)), (0, 0, (0, 0, 0, 0)), (0, 0, (0, 0, 0, 0))]), (10, [(0, (2, 0, 0, 0)), (1, (0, 1, 1, 0)), (2, (0, 2, 1, 0)), (3, (0, 3, 1, 0)), (4, (0, 4, 1, 0))], ([(0, 60), (1, 6), (0, 6), (0, 61)], []), [0], [], [(0, 0, (0, 0, 0, 0)), (1, 7, (0, 3, 1, 0)), (0, 0, (0, 0, 0, 0)), (1, 61, (0, 4, 1, 0)), (0, 1, (0, 0, 0, 0)), (0, 0, (0, 0, 0, 0)), (0, 0, (0, 0, 0, 0))]), (43, [(0, (2, 0, 0, 0)), (1, (0, 1, 1, 0)), (2, (0, 2, 1, 0)), (3, (0, 3, 1, 0)), (4, (0, 4, 1, 0)), (5, (0, 5, 1, 0))], ([(0, 60), (1, 6), (0, 6), (0, 60), (1, 61)], []), [0], [], [(0, 0, (0, 0, 0, 0)), (1, 7, (0, 3, 1, 0)), (0, 0, (0, 0, 0, 0)), (1, 61, (0, 4, 1, 0)), (0, 0, (0, 0, 0, 0)), (1, 61, (0, 5, 1, 0)), (0, 0, (0, 0, 0, 0))])]
theorem gn_49 (hU : gm_U tw) (hxt : tk_xtok xt) : tk_KS l D gk_cl gk_tbl gk_xw xt gk_MN gk_P gm_TY ro (gm_X tw) ads tw 2 gn_K49 := tk_contract (hk := tk_hk0) tk_hk0_ok (gm_xs hU) hxt gk_rok [] 20000 0 7 (Ks := [gn_K48]) (d := 1) (List.forall_mem_cons.mpr ⟨tk_KS_up (by decide) (gn_48 hU hxt), (fun _ h => absurd h List.not_mem_nil)⟩) (Hs := gn_H49) (by decide +kernel) rfl
/-- GooseIceModel.trials -/
def gn_K50 : tk_K := (347, [(2, 0, 0, 0), (0, 1, 1, 0), (0, 2, 1, 0)], ([((-2147483648), 2147483647), ((-2147483648), 2147483647)], []), [0], [], ([(some (0, 3, 1, 0), ([((-2147483648), 2147483647), ((-2147483648), 2147483647), ((-1), 1000000), (0, 1)], []), [0], [(0, (0, 0, 0, 2), (0, 4, 1, 0))])], [(0, 2), (15, 0)]))
def gn_H50 : List tk_Hd := []
theorem gn_50 (hU : gm_U tw) (hxt : tk_xtok xt) : tk_KS l D gk_cl gk_tbl gk_xw xt gk_MN gk_P gm_TY ro (gm_X tw) ads tw 5 gn_K50 := tk_contract (hk := tk_hk0) tk_hk0_ok (gm_xs hU) hxt gk_rok [207, 208, 218, 346] 20000 2 0 (Ks := [gn_K48, gn_K49]) (d := 2) (List.forall_mem_cons.mpr ⟨tk_KS_up (by decide) (gn_48 hU hxt), (List.forall_mem_cons.mpr ⟨tk_KS_up (by decide) (gn_49 hU hxt), (fun _ h => absurd h List.not_mem_nil)⟩)⟩) (Hs := gn_H50) (by decide +kernel) rfl
/-- GooseIceModel.lived -/
def gn_K51 : tk_K := (367, [(2, 0, 0, 0), (0, 1, 1, 0)], ([((-2147483648), 2147483647)], []), [0], [], ([(some (0, 2, 1, 0), ([((-2147483648), 2147483647), ((-2147483648), 2147483647), (0, 6)], []), [0], [(0, (0, 0, 0, 2), (0, 3, 1, 0))])], [(0, 2)]))
def gn_H51 : List tk_Hd := []
theorem gn_51 (hU : gm_U tw) (hxt : tk_xtok xt) : tk_KS l D gk_cl gk_tbl gk_xw xt gk_MN gk_P gm_TY ro (gm_X tw) ads tw 2 gn_K51 := tk_contract (hk := tk_hk0) tk_hk0_ok (gm_xs hU) hxt gk_rok [207, 208] 20000 1 0 (Ks := []) (d := 0) (fun _ h => absurd h List.not_mem_nil) (Hs := gn_H51) (by decide +kernel) rfl
end GN10
end MH29_0
section MH29_1
/-! ===== the law: its instructions, the state behind the constructors ===== -/
def sg_b : List Int32 := [105, 99, 101, 32, 98, 101, 97, 114, 115, 32, 115, 104, 111, 114, 101, 32, 119, 97, 121, 32, 98, 101, 115, 105, 100, 101, 32, 119, 97, 108, 107, 101, 114, 32, 119, 101, 105, 103, 104, 115, 32, 97, 116, 32, 119, 111, 114, 115, 101, 32, 104, 111, 117, 114, 32, 98, 101, 116, 116, 101, 114, 32, 115, 101, 110, 100, 32, 116, 111, 32, 115, 116, 101, 112, 32, 102, 114, 111, 115, 116, 32, 116, 104, 97, 119, 32, 97, 110, 121, 32, 119, 104, 101, 110, 32, 105, 110, 32, 119, 101, 116, 32, 108, 111, 111, 112, 32, 101, 110, 100, 32, 115, 116, 111, 112]
def sg_n : Nat := 115
def tg_G : List (List Nat) := [[0, 1000000, 1000000, 1000000, 1000000, 1000000, 1000000, 1000000, 1000000, 1000000, 1000000, 1000000, 1000000, 1000000, 1000000, 1000000, 1000000, 1000000, 1000000, 1000000, 1000000, 1000000, 1000000, 1000000, 1000000, 1000000, 1000000, 1000000, 1000000, 1000000, 1000000, 1000000, 1000000, 1000000, 1000000, 1000000, 1000000, 1000000, 1000000, 1000000, 1000000, 1000000, 1000000, 1000000, 1000000, 1000000, 1000000, 1000000, 1000000, 1000000, 1000000, 1000000, 1000000, 1000000, 1000000, 1000000, 1000000, 1000000, 1000000, 1000000, 1000000], [0, 1, 2, 3, 4, 5, 6, 7, 8, 9, 10, 11, 12, 13, 14, 15, 16, 17, 18, 19, 20, 21, 22, 23, 24, 25, 26, 27, 28, 29, 30, 31, 32, 33, 34, 35, 36, 37, 38, 39, 40, 41, 42, 43, 44, 45, 46, 47, 48, 49, 50, 51, 52, 53, 54, 55, 56, 57, 58, 59, 60], [0, 1, 2, 2, 3, 3, 3, 4, 4, 4, 4, 5, 5, 5, 5, 5, 6, 6, 6, 6, 6, 6, 7, 7, 7, 7, 7, 7, 7, 8, 8, 8, 8, 8, 8, 8, 8, 9, 9, 9, 9, 9, 9, 9, 9, 9, 10, 10, 10, 10, 10, 10, 10, 10, 10, 10, 11, 11, 11, 11, 11], [0, 1, 2, 2, 3, 3, 3, 3, 4, 4, 4, 4, 4, 4, 4, 5, 5, 5, 5, 5, 5, 5, 5, 5, 5, 5, 6, 6, 6, 6, 6, 6, 6, 6, 6, 6, 6, 6, 6, 6, 6, 6, 7, 7, 7, 7, 7, 7, 7, 7, 7, 7, 7, 7, 7, 7, 7, 7, 7, 7, 7], [0, 1, 2, 2, 3, 3, 3, 3, 4, 4, 4, 4, 4, 4, 4, 4, 5, 5, 5, 5, 5, 5, 5, 5, 5, 5, 5, 5, 5, 5, 5, 6, 6, 6, 6, 6, 6, 6, 6, 6, 6, 6, 6, 6, 6, 6, 6, 6, 6, 6, 6, 6, 6, 6, 6, 6, 6, 7, 7, 7, 7], [0, 1, 2, 2, 3, 3, 3, 3, 4, 4, 4, 4, 4, 4, 4, 4, 5, 5, 5, 5, 5, 5, 5, 5, 5, 5, 5, 5, 5, 5, 5, 5, 6, 6, 6, 6, 6, 6, 6, 6, 6, 6, 6, 6, 6, 6, 6, 6, 6, 6, 6, 6, 6, 6, 6, 6, 6, 6, 6, 6, 6], [0, 1, 2, 2, 3, 3, 3, 3, 4, 4, 4, 4, 4, 4, 4, 4, 5, 5, 5, 5, 5, 5, 5, 5, 5, 5, 5, 5, 5, 5, 5, 5, 6, 6, 6, 6, 6, 6, 6, 6, 6, 6, 6, 6, 6, 6, 6, 6, 6, 6, 6, 6, 6, 6, 6, 6, 6, 6, 6, 6, 6]]
def tg (k m : Nat) : Nat := (tg_G.getD k []).getD m 0
/-- the frame of the Reader's constructor: the loop over the text is jumped -/
def rd_lits : List Int64 := [9317, 2262611, 20201029, 23609, 72983685, 773205170, 777297171, 52, 24627813, 278194, 73027762, 628164, 655, 643248, 6897268, 663607, 1497, 762030, 302, 23732, 409072, 5572, 643568]
def rd_ov : List (Nat × rk_V) := [(0, .inl (.long 9317)), (1, .inl (.long 2262611)), (2, .inl (.long 20201029)), (3, .inl (.long 23609)), (4, .inl (.long 72983685)), (5, .inl (.long 773205170)), (6, .inl (.long 777297171)), (7, .inl (.long 52)), (8, .inl (.long 24627813)), (9, .inl (.long 278194)), (10, .inl (.long 73027762)), (11, .inl (.long 628164)), (12, .inl (.long 655)), (13, .inl (.long 643248)), (14, .inl (.long 6897268)), (15, .inl (.long 663607)), (16, .inl (.long 1497)), (17, .inl (.long 762030)), (18, .inl (.long 302)), (19, .inl (.long 23732)), (20, .inl (.long 409072)), (21, .inl (.long 5572)), (22, .inl (.long 643568))]
def rk_rdx : rk_Ext := fun pc ins st => if pc = 35 then (match st.1, st.2.1 with
  | [(2, .inl (.int x2)), (1, .inl (.int x1)), (0, .inr (.inl j))], [] => if x1 = 0 ∧ x2 = 0 then (match st.2.2.2.1[j]? with
    | some (.inl o) => if o.1 = 8 then (match (o.2[1]? : Option rk_V) with
      | some (.inr (.inl k)) => (match st.2.2.2.1[k]? with
        | some (.inr (.long, nn, dd, ov)) => if nn = 23 ∧ ov.isEmpty = true ∧ dd = .inl (.long 0) then some [(99, ([(0, .inr (.inl j))], [], st.2.2.1, st.2.2.2.1.set k (.inr (.long, 23, .inl (.long 0), rd_ov)), st.2.2.2.2.1, st.2.2.2.2.2))] else none
        | _ => none)
      | _ => none) else none
    | _ => none) else none
  | _, _ => none) else none
/-- the frame of the model's plain: its loop is jumped -/
def rk_plx : rk_Ext := fun pc ins st => if pc = 2 then (match st.1, st.2.1 with
  | [(2, .inl (.int x2)), (0, .inr (.inl j)), (1, .inl (.int sv))], [] => if x2 = 0 ∧ 0 ≤ sv.toInt ∧ sv.toInt + 842 ≤ 5894 then (match st.2.2.2.1[j]? with
    | some (.inl o) => if o.1 = 12 then (match (o.2[0]? : Option rk_V) with
      | some (.inr (.inl k)) => (match st.2.2.2.1[k]? with
        | some (.inr (.int, nn, dd, ov)) => if nn = 5894 ∧ dd = .inl (.int 0) then some [(24, ([(0, .inr (.inl j)), (1, .inl (.int sv))], [], st.2.2.1, st.2.2.2.1.set k (.inr (.int, 5894, .inl (.int 0), ov.filter (fun z => decide (z.1 < sv.toInt.toNat) || decide (sv.toInt.toNat + 842 ≤ z.1)))), st.2.2.2.2.1, st.2.2.2.2.2))] else none
        | _ => none)
      | _ => none) else none
    | _ => none) else none
  | _, _ => none) else none
/-- the table of trials, as places that are listed -/
def tg_ov (b n : Nat) : List (Nat × rk_V) := (List.range (b + 1)).flatMap (fun k => (List.range (n + 1)).map (fun t => (61 * k + t, .inl (.int (nI (tg k t))))))
def gk_tx (hp : List rk_H) (k : Nat) (dd : rk_V) (ov : List (Nat × rk_V)) (env : List rk_T) (an ab : rk_V) (lo1 lo2 : Int) (x y : Nat) : List rk_X := match (rk_cut env an (lo1 + x) (lo1 + x)).bind (fun e1 => rk_cut e1 ab (lo2 + y) (lo2 + y)) with
  | some e2 => [(some (.inl (.int (nI (tg (lo2 + y).toNat (lo1 + x).toNat)))), e2, hp.set k (.inr (.int, 427, dd, tg_ov (lo2 + y).toNat (lo1 + x).toNat ++ ov)), 0, 0)]
  | none => []
def gk_ts (as : List rk_V) (env : List rk_T) (hp : List rk_H) : Option rk_O := match as with
  | [.inr (.inl j), an, ab] => match hp[j]? with
    | some (.inl o) => if o.1 = 12 then (match (o.2[32]? : Option rk_V) with
      | some (.inr (.inl k)) => (match hp[k]? with
        | some (.inr (.int, nn, dd, ov)) => if nn = 427 then (match rk_iv env an, rk_iv env ab with
          | some I, some J => if (0 ≤ I.1 ∧ I.2 ≤ 60) ∧ 0 ≤ J.1 ∧ J.2 ≤ 6 then some (0, 0, (List.range (I.2 - I.1 + 1).toNat).flatMap (fun x => (List.range (J.2 - J.1 + 1).toNat).flatMap (fun y => gk_tx hp k dd ov env an ab I.1 J.1 x y))) else none
          | _, _ => none) else none
        | _ => none)
      | _ => none) else none
    | _ => none
  | _ => none
/-- the sums -/
def gk_sum (d f : Nat) (as : List rk_V) (env : List rk_T) (hp : List rk_H) : Option rk_O := if 4 ≤ d then (if f = 344 then gk_ts as env hp else if f = 99 then (if rk_sum env as ≤ gk_m99.2.1 then rk_loop gk_fty gk_cln gk_mci (fun _ _ _ _ => none) rk_rdx gk_m99 200 (0, (rk_args env 0 as, [], env, hp, 0, 0)) else none) else if f = 202 then (if rk_sum env as ≤ gk_m202.2.1 then rk_loop gk_fty gk_cln gk_mci (fun _ _ _ _ => none) rk_plx gk_m202 200 (0, (rk_args env 0 as, [], env, hp, 0, 0)) else none) else none) else none
def gk_la : List (Nat × Instr × Nat) := [(0, .new 7, 3), (3, .dup, 1), (4, .invokespecial 9, 3), (7, .astore_n 1, 1), (8, .new 10, 3), (11, .dup, 1), (12, .invokespecial 12, 3), (15, .astore_n 2, 1), (16, .iconst 0, 1), (17, .istore_n 3, 1), (18, .iload_n 3, 1), (19, .aload_n 0, 1), (20, .arraylength, 1), (21, .bipush 6, 2), (23, .isub, 1), (24, .if_icmp .gt 2139, 3), (27, .aload_n 0, 1), (28, .iload_n 3, 1), (29, .iaload, 1), (30, .bipush 63, 2), (32, .iand, 1), (33, .tableswitch 2124 0 58 #[251, 264, 277, 290, 333, 406, 439, 502, 565, 588, 611, 634, 657, 690, 723, 756, 789, 822, 845, 888, 921, 944, 967, 990, 1013, 1036, 1059, 1092, 1151, 1184, 1217, 1250, 1293, 1326, 1359, 1402, 1425, 1458, 1491, 1514, 1527, 1550, 1583, 1626, 1659, 1672, 1695, 1718, 1751, 1784, 1817, 1840, 1903, 1966, 2019, 2042, 2065, 2098, 2111], 251)]
def gk_lcs : List (Nat × Value) := [(32, .long 4294967295)]
def gk_lM (l : List (Nat × Instr × Nat)) : rk_M2 := (l, 4, gk_lk12, gk_lcs, some .boolean, 999)
def gk_hp : List rk_H := [.inl (11, [.inl (.int 0), .inl (.long 0), .inl (.long 1), .inr (.inl 1), .inr (.inl 6), .inr (.inl 7), .inr (.inl 8), .inr (.inl 9), .inr (.inl 12), .inr (.inl 13), .inr (.inl 15), .inr (.inl 41), .inr (.inl 67), .inl (.int 0), .inr (.inl 68), .inr (.inl 73), .inr (.inl 185), .inr (.inl 188), .inr (.inl 191), .inl (.int 0)]),
  .inr ((.array .long), 4, .inl .null, [(3, .inr (.inl 5)), (2, .inr (.inl 4)), (1, .inr (.inl 3)), (0, .inr (.inl 2))]),
  .inr (.long, 60, .inl (.long 0), []),
  .inr (.long, 60, .inl (.long 0), []),
  .inr (.long, 60, .inl (.long 0), []),
  .inr (.long, 60, .inl (.long 0), []),
  .inr (.int, 4, .inl (.int 0), []),
  .inr (.int, 4, .inl (.int 0), [(3, .inl (.int (-1))), (2, .inl (.int (-1))), (1, .inl (.int (-1))), (0, .inl (.int (-1)))]),
  .inr (.int, 20, .inl (.int 0), []),
  .inl (8, [.inr (.inl 10), .inr (.inl 11), .inl (.int 0), .inl (.int 0), .inl (.int 0), .inl (.int 0), .inl (.int 0), .inl (.int 0), .inl (.long 0), .inl (.int 0), .inl (.int (-1)), .inl (.int (-1))]),
  .inr (.byte, 900, .inl (.int 0), []),
  .inr (.long, 23, .inl (.long 0), [(0, .inl (.long 9317)), (1, .inl (.long 2262611)), (2, .inl (.long 20201029)), (3, .inl (.long 23609)), (4, .inl (.long 72983685)), (5, .inl (.long 773205170)), (6, .inl (.long 777297171)), (7, .inl (.long 52)), (8, .inl (.long 24627813)), (9, .inl (.long 278194)), (10, .inl (.long 73027762)), (11, .inl (.long 628164)), (12, .inl (.long 655)), (13, .inl (.long 643248)), (14, .inl (.long 6897268)), (15, .inl (.long 663607)), (16, .inl (.long 1497)), (17, .inl (.long 762030)), (18, .inl (.long 302)), (19, .inl (.long 23732)), (20, .inl (.long 409072)), (21, .inl (.long 5572)), (22, .inl (.long 643568))]),
  .inl (4, [.inr (.inl 9), .inl (.int 0)]),
  .inl (10, [.inr (.inl 9), .inr (.inl 14), .inl (.int 0)]),
  .inr (.int, 3, .inl (.int 0), []),
  .inl (3, [.inr (.inl 16), .inr (.inl 17), .inr (.inl 18), .inr (.inl 19), .inr (.inl 20), .inr (.inl 21), .inr (.inl 26), .inr (.inl 34), .inl (.int 0), .inl (.int 0), .inl (.int 2), .inl (.int 4), .inl (.int 1), .inl (.int 0)]),
  .inr (.long, 10, .inl (.long 0), []),
  .inr (.int, 10, .inl (.int 0), []),
  .inr (.int, 10, .inl (.int 0), []),
  .inr (.int, 10, .inl (.int 0), []),
  .inr (.int, 10, .inl (.int 0), []),
  .inl (2, [.inr (.inl 22), .inr (.inl 23), .inr (.inl 24), .inr (.inl 25), .inl (.int 0), .inl (.int 0)]),
  .inr (.int, 10, .inl (.int 0), []),
  .inr (.int, 10, .inl (.int 0), []),
  .inr (.int, 10, .inl (.int 0), []),
  .inr (.int, 200, .inl (.int 0), []),
  .inl (0, [.inr (.inl 27), .inr (.inl 28), .inr (.inl 29), .inr (.inl 30), .inr (.inl 31), .inr (.inl 32), .inr (.inl 33), .inl (.int 0), .inl (.int 0), .inl (.int 0)]),
  .inr (.long, 8, .inl (.long 0), []),
  .inr (.int, 8, .inl (.int 0), []),
  .inr (.int, 8, .inl (.int 0), []),
  .inr (.int, 8, .inl (.int 0), []),
  .inr (.int, 8, .inl (.int 0), []),
  .inr (.int, 8, .inl (.int 0), []),
  .inr (.int, 160, .inl (.int 0), []),
  .inl (9, [.inr (.inl 35), .inr (.inl 36), .inr (.inl 37), .inr (.inl 38), .inr (.inl 39), .inr (.inl 40), .inl (.int 0), .inl (.int 0)]),
  .inr (.int, 30, .inl (.int 0), []),
  .inr (.int, 30, .inl (.int 0), []),
  .inr (.int, 30, .inl (.int 0), []),
  .inr (.int, 30, .inl (.int 0), []),
  .inr (.int, 30, .inl (.int 0), []),
  .inr (.int, 30, .inl (.int 0), []),
  .inl (3, [.inr (.inl 42), .inr (.inl 43), .inr (.inl 44), .inr (.inl 45), .inr (.inl 46), .inr (.inl 47), .inr (.inl 52), .inr (.inl 60), .inl (.int 0), .inl (.int 0), .inl (.int 2), .inl (.int 4), .inl (.int 1), .inl (.int 0)]),
  .inr (.long, 10, .inl (.long 0), []),
  .inr (.int, 10, .inl (.int 0), []),
  .inr (.int, 10, .inl (.int 0), []),
  .inr (.int, 10, .inl (.int 0), []),
  .inr (.int, 10, .inl (.int 0), []),
  .inl (2, [.inr (.inl 48), .inr (.inl 49), .inr (.inl 50), .inr (.inl 51), .inl (.int 0), .inl (.int 0)]),
  .inr (.int, 10, .inl (.int 0), []),
  .inr (.int, 10, .inl (.int 0), []),
  .inr (.int, 10, .inl (.int 0), []),
  .inr (.int, 200, .inl (.int 0), []),
  .inl (0, [.inr (.inl 53), .inr (.inl 54), .inr (.inl 55), .inr (.inl 56), .inr (.inl 57), .inr (.inl 58), .inr (.inl 59), .inl (.int 0), .inl (.int 0), .inl (.int 0)]),
  .inr (.long, 8, .inl (.long 0), []),
  .inr (.int, 8, .inl (.int 0), []),
  .inr (.int, 8, .inl (.int 0), []),
  .inr (.int, 8, .inl (.int 0), []),
  .inr (.int, 8, .inl (.int 0), []),
  .inr (.int, 8, .inl (.int 0), []),
  .inr (.int, 160, .inl (.int 0), []),
  .inl (9, [.inr (.inl 61), .inr (.inl 62), .inr (.inl 63), .inr (.inl 64), .inr (.inl 65), .inr (.inl 66), .inl (.int 0), .inl (.int 0)]),
  .inr (.int, 30, .inl (.int 0), []),
  .inr (.int, 30, .inl (.int 0), []),
  .inr (.int, 30, .inl (.int 0), []),
  .inr (.int, 30, .inl (.int 0), []),
  .inr (.int, 30, .inl (.int 0), []),
  .inr (.int, 30, .inl (.int 0), []),
  .inr ((.object "GooseIce$Lake"), 3, .inl .null, [(2, .inr (.inl 244)), (1, .inr (.inl 218)), (0, .inr (.inl 192))]),
  .inl (6, [.inr (.inl 69), .inr (.inl 70), .inr (.inl 71), .inr (.inl 72), .inl (.int 0), .inl (.int 0)]),
  .inr (.int, 10, .inl (.int 0), []),
  .inr (.int, 11, .inl (.int 0), []),
  .inr (.int, 10, .inl (.int 0), []),
  .inr (.int, 1024, .inl (.int 0), []),
  .inl (7, [.inr (.inl 74), .inr (.inl 75), .inr (.inl 76), .inr (.inl 77), .inr (.inl 78), .inr (.inl 79), .inr (.inl 80), .inl (.int 0), .inl (.int 0), .inl (.int 0), .inl (.int 0)]),
  .inr ((.object "GooseIce$Lake"), 4, .inl .null, [(3, .inr (.inl 159)), (2, .inr (.inl 133)), (1, .inr (.inl 107)), (0, .inr (.inl 81))]),
  .inr (.int, 4, .inl (.int 0), []),
  .inr (.int, 4, .inl (.int 0), []),
  .inr (.int, 4, .inl (.int 0), []),
  .inr (.int, 4, .inl (.int 0), []),
  .inr (.int, 4, .inl (.int 0), []),
  .inr (.int, 12, .inl (.int 0), []),
  .inl (3, [.inr (.inl 82), .inr (.inl 83), .inr (.inl 84), .inr (.inl 85), .inr (.inl 86), .inr (.inl 87), .inr (.inl 92), .inr (.inl 100), .inl (.int 0), .inl (.int 0), .inl (.int 2), .inl (.int 4), .inl (.int 1), .inl (.int 0)]),
  .inr (.long, 10, .inl (.long 0), []),
  .inr (.int, 10, .inl (.int 0), []),
  .inr (.int, 10, .inl (.int 0), []),
  .inr (.int, 10, .inl (.int 0), []),
  .inr (.int, 10, .inl (.int 0), []),
  .inl (2, [.inr (.inl 88), .inr (.inl 89), .inr (.inl 90), .inr (.inl 91), .inl (.int 0), .inl (.int 0)]),
  .inr (.int, 10, .inl (.int 0), []),
  .inr (.int, 10, .inl (.int 0), []),
  .inr (.int, 10, .inl (.int 0), []),
  .inr (.int, 200, .inl (.int 0), []),
  .inl (0, [.inr (.inl 93), .inr (.inl 94), .inr (.inl 95), .inr (.inl 96), .inr (.inl 97), .inr (.inl 98), .inr (.inl 99), .inl (.int 0), .inl (.int 0), .inl (.int 0)]),
  .inr (.long, 8, .inl (.long 0), []),
  .inr (.int, 8, .inl (.int 0), []),
  .inr (.int, 8, .inl (.int 0), []),
  .inr (.int, 8, .inl (.int 0), []),
  .inr (.int, 8, .inl (.int 0), []),
  .inr (.int, 8, .inl (.int 0), []),
  .inr (.int, 160, .inl (.int 0), []),
  .inl (9, [.inr (.inl 101), .inr (.inl 102), .inr (.inl 103), .inr (.inl 104), .inr (.inl 105), .inr (.inl 106), .inl (.int 0), .inl (.int 0)]),
  .inr (.int, 30, .inl (.int 0), []),
  .inr (.int, 30, .inl (.int 0), []),
  .inr (.int, 30, .inl (.int 0), []),
  .inr (.int, 30, .inl (.int 0), []),
  .inr (.int, 30, .inl (.int 0), []),
  .inr (.int, 30, .inl (.int 0), []),
  .inl (3, [.inr (.inl 108), .inr (.inl 109), .inr (.inl 110), .inr (.inl 111), .inr (.inl 112), .inr (.inl 113), .inr (.inl 118), .inr (.inl 126), .inl (.int 0), .inl (.int 0), .inl (.int 2), .inl (.int 4), .inl (.int 1), .inl (.int 0)]),
  .inr (.long, 10, .inl (.long 0), []),
  .inr (.int, 10, .inl (.int 0), []),
  .inr (.int, 10, .inl (.int 0), []),
  .inr (.int, 10, .inl (.int 0), []),
  .inr (.int, 10, .inl (.int 0), []),
  .inl (2, [.inr (.inl 114), .inr (.inl 115), .inr (.inl 116), .inr (.inl 117), .inl (.int 0), .inl (.int 0)]),
  .inr (.int, 10, .inl (.int 0), []),
  .inr (.int, 10, .inl (.int 0), []),
  .inr (.int, 10, .inl (.int 0), []),
  .inr (.int, 200, .inl (.int 0), []),
  .inl (0, [.inr (.inl 119), .inr (.inl 120), .inr (.inl 121), .inr (.inl 122), .inr (.inl 123), .inr (.inl 124), .inr (.inl 125), .inl (.int 0), .inl (.int 0), .inl (.int 0)]),
  .inr (.long, 8, .inl (.long 0), []),
  .inr (.int, 8, .inl (.int 0), []),
  .inr (.int, 8, .inl (.int 0), []),
  .inr (.int, 8, .inl (.int 0), []),
  .inr (.int, 8, .inl (.int 0), []),
  .inr (.int, 8, .inl (.int 0), []),
  .inr (.int, 160, .inl (.int 0), []),
  .inl (9, [.inr (.inl 127), .inr (.inl 128), .inr (.inl 129), .inr (.inl 130), .inr (.inl 131), .inr (.inl 132), .inl (.int 0), .inl (.int 0)]),
  .inr (.int, 30, .inl (.int 0), []),
  .inr (.int, 30, .inl (.int 0), []),
  .inr (.int, 30, .inl (.int 0), []),
  .inr (.int, 30, .inl (.int 0), []),
  .inr (.int, 30, .inl (.int 0), []),
  .inr (.int, 30, .inl (.int 0), []),
  .inl (3, [.inr (.inl 134), .inr (.inl 135), .inr (.inl 136), .inr (.inl 137), .inr (.inl 138), .inr (.inl 139), .inr (.inl 144), .inr (.inl 152), .inl (.int 0), .inl (.int 0), .inl (.int 2), .inl (.int 4), .inl (.int 1), .inl (.int 0)]),
  .inr (.long, 10, .inl (.long 0), []),
  .inr (.int, 10, .inl (.int 0), []),
  .inr (.int, 10, .inl (.int 0), []),
  .inr (.int, 10, .inl (.int 0), []),
  .inr (.int, 10, .inl (.int 0), []),
  .inl (2, [.inr (.inl 140), .inr (.inl 141), .inr (.inl 142), .inr (.inl 143), .inl (.int 0), .inl (.int 0)]),
  .inr (.int, 10, .inl (.int 0), []),
  .inr (.int, 10, .inl (.int 0), []),
  .inr (.int, 10, .inl (.int 0), []),
  .inr (.int, 200, .inl (.int 0), []),
  .inl (0, [.inr (.inl 145), .inr (.inl 146), .inr (.inl 147), .inr (.inl 148), .inr (.inl 149), .inr (.inl 150), .inr (.inl 151), .inl (.int 0), .inl (.int 0), .inl (.int 0)]),
  .inr (.long, 8, .inl (.long 0), []),
  .inr (.int, 8, .inl (.int 0), []),
  .inr (.int, 8, .inl (.int 0), []),
  .inr (.int, 8, .inl (.int 0), []),
  .inr (.int, 8, .inl (.int 0), []),
  .inr (.int, 8, .inl (.int 0), []),
  .inr (.int, 160, .inl (.int 0), []),
  .inl (9, [.inr (.inl 153), .inr (.inl 154), .inr (.inl 155), .inr (.inl 156), .inr (.inl 157), .inr (.inl 158), .inl (.int 0), .inl (.int 0)]),
  .inr (.int, 30, .inl (.int 0), []),
  .inr (.int, 30, .inl (.int 0), []),
  .inr (.int, 30, .inl (.int 0), []),
  .inr (.int, 30, .inl (.int 0), []),
  .inr (.int, 30, .inl (.int 0), []),
  .inr (.int, 30, .inl (.int 0), []),
  .inl (3, [.inr (.inl 160), .inr (.inl 161), .inr (.inl 162), .inr (.inl 163), .inr (.inl 164), .inr (.inl 165), .inr (.inl 170), .inr (.inl 178), .inl (.int 0), .inl (.int 0), .inl (.int 2), .inl (.int 4), .inl (.int 1), .inl (.int 0)]),
  .inr (.long, 10, .inl (.long 0), []),
  .inr (.int, 10, .inl (.int 0), []),
  .inr (.int, 10, .inl (.int 0), []),
  .inr (.int, 10, .inl (.int 0), []),
  .inr (.int, 10, .inl (.int 0), []),
  .inl (2, [.inr (.inl 166), .inr (.inl 167), .inr (.inl 168), .inr (.inl 169), .inl (.int 0), .inl (.int 0)]),
  .inr (.int, 10, .inl (.int 0), []),
  .inr (.int, 10, .inl (.int 0), []),
  .inr (.int, 10, .inl (.int 0), []),
  .inr (.int, 200, .inl (.int 0), []),
  .inl (0, [.inr (.inl 171), .inr (.inl 172), .inr (.inl 173), .inr (.inl 174), .inr (.inl 175), .inr (.inl 176), .inr (.inl 177), .inl (.int 0), .inl (.int 0), .inl (.int 0)]),
  .inr (.long, 8, .inl (.long 0), []),
  .inr (.int, 8, .inl (.int 0), []),
  .inr (.int, 8, .inl (.int 0), []),
  .inr (.int, 8, .inl (.int 0), []),
  .inr (.int, 8, .inl (.int 0), []),
  .inr (.int, 8, .inl (.int 0), []),
  .inr (.int, 160, .inl (.int 0), []),
  .inl (9, [.inr (.inl 179), .inr (.inl 180), .inr (.inl 181), .inr (.inl 182), .inr (.inl 183), .inr (.inl 184), .inl (.int 0), .inl (.int 0)]),
  .inr (.int, 30, .inl (.int 0), []),
  .inr (.int, 30, .inl (.int 0), []),
  .inr (.int, 30, .inl (.int 0), []),
  .inr (.int, 30, .inl (.int 0), []),
  .inr (.int, 30, .inl (.int 0), []),
  .inr (.int, 30, .inl (.int 0), []),
  .inl (1, [.inr (.inl 186), .inr (.inl 187), .inl (.int 0)]),
  .inr (.long, 21, .inl (.long 0), []),
  .inr (.long, 21, .inl (.long 0), []),
  .inl (5, [.inr (.inl 68), .inr (.inl 189), .inr (.inl 190), .inl (.int 0), .inl (.int 0), .inl (.int 0), .inl (.int 0), .inl (.int 0), .inl (.int 0), .inl (.int 0), .inl (.int 0)]),
  .inr (.int, 3, .inl (.int 0), []),
  .inr (.int, 3, .inl (.int 0), []),
  .inr (.int, 5, .inl (.int 0), []),
  .inl (3, [.inr (.inl 193), .inr (.inl 194), .inr (.inl 195), .inr (.inl 196), .inr (.inl 197), .inr (.inl 198), .inr (.inl 203), .inr (.inl 211), .inl (.int 0), .inl (.int 0), .inl (.int 2), .inl (.int 4), .inl (.int 1), .inl (.int 0)]),
  .inr (.long, 10, .inl (.long 0), []),
  .inr (.int, 10, .inl (.int 0), []),
  .inr (.int, 10, .inl (.int 0), []),
  .inr (.int, 10, .inl (.int 0), []),
  .inr (.int, 10, .inl (.int 0), []),
  .inl (2, [.inr (.inl 199), .inr (.inl 200), .inr (.inl 201), .inr (.inl 202), .inl (.int 0), .inl (.int 0)]),
  .inr (.int, 10, .inl (.int 0), []),
  .inr (.int, 10, .inl (.int 0), []),
  .inr (.int, 10, .inl (.int 0), []),
  .inr (.int, 200, .inl (.int 0), []),
  .inl (0, [.inr (.inl 204), .inr (.inl 205), .inr (.inl 206), .inr (.inl 207), .inr (.inl 208), .inr (.inl 209), .inr (.inl 210), .inl (.int 0), .inl (.int 0), .inl (.int 0)]),
  .inr (.long, 8, .inl (.long 0), []),
  .inr (.int, 8, .inl (.int 0), []),
  .inr (.int, 8, .inl (.int 0), []),
  .inr (.int, 8, .inl (.int 0), []),
  .inr (.int, 8, .inl (.int 0), []),
  .inr (.int, 8, .inl (.int 0), []),
  .inr (.int, 160, .inl (.int 0), []),
  .inl (9, [.inr (.inl 212), .inr (.inl 213), .inr (.inl 214), .inr (.inl 215), .inr (.inl 216), .inr (.inl 217), .inl (.int 0), .inl (.int 0)]),
  .inr (.int, 30, .inl (.int 0), []),
  .inr (.int, 30, .inl (.int 0), []),
  .inr (.int, 30, .inl (.int 0), []),
  .inr (.int, 30, .inl (.int 0), []),
  .inr (.int, 30, .inl (.int 0), []),
  .inr (.int, 30, .inl (.int 0), []),
  .inl (3, [.inr (.inl 219), .inr (.inl 220), .inr (.inl 221), .inr (.inl 222), .inr (.inl 223), .inr (.inl 224), .inr (.inl 229), .inr (.inl 237), .inl (.int 0), .inl (.int 0), .inl (.int 2), .inl (.int 4), .inl (.int 1), .inl (.int 0)]),
  .inr (.long, 10, .inl (.long 0), []),
  .inr (.int, 10, .inl (.int 0), []),
  .inr (.int, 10, .inl (.int 0), []),
  .inr (.int, 10, .inl (.int 0), []),
  .inr (.int, 10, .inl (.int 0), []),
  .inl (2, [.inr (.inl 225), .inr (.inl 226), .inr (.inl 227), .inr (.inl 228), .inl (.int 0), .inl (.int 0)]),
  .inr (.int, 10, .inl (.int 0), []),
  .inr (.int, 10, .inl (.int 0), []),
  .inr (.int, 10, .inl (.int 0), []),
  .inr (.int, 200, .inl (.int 0), []),
  .inl (0, [.inr (.inl 230), .inr (.inl 231), .inr (.inl 232), .inr (.inl 233), .inr (.inl 234), .inr (.inl 235), .inr (.inl 236), .inl (.int 0), .inl (.int 0), .inl (.int 0)]),
  .inr (.long, 8, .inl (.long 0), []),
  .inr (.int, 8, .inl (.int 0), []),
  .inr (.int, 8, .inl (.int 0), []),
  .inr (.int, 8, .inl (.int 0), []),
  .inr (.int, 8, .inl (.int 0), []),
  .inr (.int, 8, .inl (.int 0), []),
  .inr (.int, 160, .inl (.int 0), []),
  .inl (9, [.inr (.inl 238), .inr (.inl 239), .inr (.inl 240), .inr (.inl 241), .inr (.inl 242), .inr (.inl 243), .inl (.int 0), .inl (.int 0)]),
  .inr (.int, 30, .inl (.int 0), []),
  .inr (.int, 30, .inl (.int 0), []),
  .inr (.int, 30, .inl (.int 0), []),
  .inr (.int, 30, .inl (.int 0), []),
  .inr (.int, 30, .inl (.int 0), []),
  .inr (.int, 30, .inl (.int 0), []),
  .inl (3, [.inr (.inl 245), .inr (.inl 246), .inr (.inl 247), .inr (.inl 248), .inr (.inl 249), .inr (.inl 250), .inr (.inl 255), .inr (.inl 263), .inl (.int 0), .inl (.int 0), .inl (.int 2), .inl (.int 4), .inl (.int 1), .inl (.int 0)]),
  .inr (.long, 10, .inl (.long 0), []),
  .inr (.int, 10, .inl (.int 0), []),
  .inr (.int, 10, .inl (.int 0), []),
  .inr (.int, 10, .inl (.int 0), []),
  .inr (.int, 10, .inl (.int 0), []),
  .inl (2, [.inr (.inl 251), .inr (.inl 252), .inr (.inl 253), .inr (.inl 254), .inl (.int 0), .inl (.int 0)]),
  .inr (.int, 10, .inl (.int 0), []),
  .inr (.int, 10, .inl (.int 0), []),
  .inr (.int, 10, .inl (.int 0), []),
  .inr (.int, 200, .inl (.int 0), []),
  .inl (0, [.inr (.inl 256), .inr (.inl 257), .inr (.inl 258), .inr (.inl 259), .inr (.inl 260), .inr (.inl 261), .inr (.inl 262), .inl (.int 0), .inl (.int 0), .inl (.int 0)]),
  .inr (.long, 8, .inl (.long 0), []),
  .inr (.int, 8, .inl (.int 0), []),
  .inr (.int, 8, .inl (.int 0), []),
  .inr (.int, 8, .inl (.int 0), []),
  .inr (.int, 8, .inl (.int 0), []),
  .inr (.int, 8, .inl (.int 0), []),
  .inr (.int, 160, .inl (.int 0), []),
  .inl (9, [.inr (.inl 264), .inr (.inl 265), .inr (.inl 266), .inr (.inl 267), .inr (.inl 268), .inr (.inl 269), .inl (.int 0), .inl (.int 0)]),
  .inr (.int, 30, .inl (.int 0), []),
  .inr (.int, 30, .inl (.int 0), []),
  .inr (.int, 30, .inl (.int 0), []),
  .inr (.int, 30, .inl (.int 0), []),
  .inr (.int, 30, .inl (.int 0), []),
  .inr (.int, 30, .inl (.int 0), []),
  .inl (12, [.inr (.inl 271), .inr (.inl 272), .inl (.int 0), .inl (.long 0), .inl (.long 1), .inr (.inl 273), .inr (.inl 274), .inr (.inl 275), .inr (.inl 276), .inr (.inl 277), .inl (.int 0), .inl (.int 0), .inl (.int 0), .inl (.int 0), .inl (.int 0), .inl (.int 0), .inl (.int (-1)), .inl (.int (-1)), .inl (.int 0), .inl (.int 0), .inl (.int 0), .inr (.inl 278), .inl (.int 0), .inl (.int 0), .inr (.inl 279), .inl (.int 0), .inr (.inl 280), .inr (.inl 281), .inr (.inl 282), .inr (.inl 283), .inl (.int 0), .inr (.inl 284), .inr (.inl 285), .inr (.inl 286), .inr (.inl 287), .inr (.inl 288), .inl (.int 0), .inl (.int 0), .inr (.inl 289), .inr (.inl 290), .inr (.inl 291), .inl (.int 0), .inl (.int 0)]),
  .inr (.int, 5894, .inl (.int 0), [(6, .inl (.int (-1))), (4, .inl (.int 1)), (3, .inl (.int 4)), (2, .inl (.int 2))]),
  .inr (.long, 108, .inl (.long 0), []),
  .inr (.int, 4, .inl (.int 0), []),
  .inr (.int, 4, .inl (.int 0), [(3, .inl (.int (-1))), (2, .inl (.int (-1))), (1, .inl (.int (-1))), (0, .inl (.int (-1)))]),
  .inr (.long, 240, .inl (.long 0), []),
  .inr (.byte, 900, .inl (.int 0), []),
  .inr (.byte, 900, .inl (.int 0), []),
  .inr (.int, 3, .inl (.int 0), []),
  .inr (.int, 10, .inl (.int 0), []),
  .inr (.int, 4, .inl (.int 0), []),
  .inr (.int, 4, .inl (.int 0), []),
  .inr (.int, 4, .inl (.int 0), []),
  .inr (.int, 4, .inl (.int 0), []),
  .inr (.int, 256, .inl (.int 0), []),
  .inr (.int, 427, .inl (.int 0), []),
  .inr (.int, 10, .inl (.int 0), []),
  .inr (.long, 21, .inl (.long 0), []),
  .inr (.long, 21, .inl (.long 0), []),
  .inr (.int, 80, .inl (.int 0), []),
  .inr (.int, 5, .inl (.int 0), []),
  .inr (.int, 5, .inl (.int 0), [])]
def gk_env (lo hi : Int) : List rk_T := [(0, -2147483648, 2147483647), (0, -2147483648, 2147483647), (0, -2147483648, 2147483647), (0, -2147483648, 2147483647), (0, -2147483648, 2147483647), (0, -2147483648, 2147483647), (2, 0, 0), (0, lo, hi), (2, 0, 0)]
def gk_S16 (lo hi : Int) : rk_S := ([(2, .inr (.inl 270)), (1, .inr (.inl 0)), (0, .inr (.inr (.inl 6)))], [], gk_env lo hi, gk_hp, 292, 17714)
def gk_h126 : List rk_H := [.inl (11, [.inl (.int 0), .inl (.long 0), .inl (.long 1), .inr (.inl 1), .inr (.inl 6), .inr (.inl 7), .inr (.inl 8), .inr (.inl 9), .inr (.inl 12), .inr (.inl 13), .inr (.inl 15), .inr (.inl 41), .inr (.inl 67), .inl (.int 0), .inr (.inl 68), .inr (.inl 73), .inr (.inl 185), .inr (.inl 188), .inr (.inl 191), .inl (.int 0)]),
  .inr ((.array .long), 4, .inl .null, [(3, .inr (.inl 5)), (2, .inr (.inl 4)), (1, .inr (.inl 3)), (0, .inr (.inl 2))]),
  .inr (.long, 60, .inl (.long 0), []),
  .inr (.long, 60, .inl (.long 0), []),
  .inr (.long, 60, .inl (.long 0), []),
  .inr (.long, 60, .inl (.long 0), []),
  .inr (.int, 4, .inl (.int 0), []),
  .inr (.int, 4, .inl (.int 0), [(3, .inl (.int (-1))), (2, .inl (.int (-1))), (1, .inl (.int (-1))), (0, .inl (.int (-1)))]),
  .inr (.int, 20, .inl (.int 0), []),
  .inl (8, [.inr (.inl 10), .inr (.inl 11), .inl (.int 0), .inl (.int 0), .inl (.int 0), .inl (.int 0), .inl (.int 0), .inl (.int 0), .inl (.long 0), .inl (.int 0), .inl (.int (-1)), .inl (.int (-1))]),
  .inr (.byte, 900, .inl (.int 0), []),
  .inr (.long, 23, .inl (.long 0), [(0, .inl (.long 9317)), (1, .inl (.long 2262611)), (2, .inl (.long 20201029)), (3, .inl (.long 23609)), (4, .inl (.long 72983685)), (5, .inl (.long 773205170)), (6, .inl (.long 777297171)), (7, .inl (.long 52)), (8, .inl (.long 24627813)), (9, .inl (.long 278194)), (10, .inl (.long 73027762)), (11, .inl (.long 628164)), (12, .inl (.long 655)), (13, .inl (.long 643248)), (14, .inl (.long 6897268)), (15, .inl (.long 663607)), (16, .inl (.long 1497)), (17, .inl (.long 762030)), (18, .inl (.long 302)), (19, .inl (.long 23732)), (20, .inl (.long 409072)), (21, .inl (.long 5572)), (22, .inl (.long 643568))]),
  .inl (4, [.inr (.inl 9), .inl (.int 0)]),
  .inl (10, [.inr (.inl 9), .inr (.inl 14), .inl (.int 0)]),
  .inr (.int, 3, .inl (.int 0), []),
  .inl (3, [.inr (.inl 16), .inr (.inl 17), .inr (.inl 18), .inr (.inl 19), .inr (.inl 20), .inr (.inl 21), .inr (.inl 26), .inr (.inl 34), .inl (.int 0), .inl (.int 0), .inl (.int 2), .inl (.int 4), .inl (.int 1), .inl (.int 0)]),
  .inr (.long, 10, .inl (.long 0), []),
  .inr (.int, 10, .inl (.int 0), []),
  .inr (.int, 10, .inl (.int 0), []),
  .inr (.int, 10, .inl (.int 0), []),
  .inr (.int, 10, .inl (.int 0), []),
  .inl (2, [.inr (.inl 22), .inr (.inl 23), .inr (.inl 24), .inr (.inl 25), .inl (.int 0), .inl (.int 0)]),
  .inr (.int, 10, .inl (.int 0), []),
  .inr (.int, 10, .inl (.int 0), []),
  .inr (.int, 10, .inl (.int 0), []),
  .inr (.int, 200, .inl (.int 0), []),
  .inl (0, [.inr (.inl 27), .inr (.inl 28), .inr (.inl 29), .inr (.inl 30), .inr (.inl 31), .inr (.inl 32), .inr (.inl 33), .inl (.int 0), .inl (.int 0), .inl (.int 0)]),
  .inr (.long, 8, .inl (.long 0), []),
  .inr (.int, 8, .inl (.int 0), []),
  .inr (.int, 8, .inl (.int 0), []),
  .inr (.int, 8, .inl (.int 0), []),
  .inr (.int, 8, .inl (.int 0), []),
  .inr (.int, 8, .inl (.int 0), []),
  .inr (.int, 160, .inl (.int 0), []),
  .inl (9, [.inr (.inl 35), .inr (.inl 36), .inr (.inl 37), .inr (.inl 38), .inr (.inl 39), .inr (.inl 40), .inl (.int 0), .inl (.int 0)]),
  .inr (.int, 30, .inl (.int 0), []),
  .inr (.int, 30, .inl (.int 0), []),
  .inr (.int, 30, .inl (.int 0), []),
  .inr (.int, 30, .inl (.int 0), []),
  .inr (.int, 30, .inl (.int 0), []),
  .inr (.int, 30, .inl (.int 0), []),
  .inl (3, [.inr (.inl 42), .inr (.inl 43), .inr (.inl 44), .inr (.inl 45), .inr (.inl 46), .inr (.inl 47), .inr (.inl 52), .inr (.inl 60), .inl (.int 0), .inl (.int 0), .inl (.int 2), .inl (.int 4), .inl (.int 1), .inl (.int 0)]),
  .inr (.long, 10, .inl (.long 0), []),
  .inr (.int, 10, .inl (.int 0), []),
  .inr (.int, 10, .inl (.int 0), []),
  .inr (.int, 10, .inl (.int 0), []),
  .inr (.int, 10, .inl (.int 0), []),
  .inl (2, [.inr (.inl 48), .inr (.inl 49), .inr (.inl 50), .inr (.inl 51), .inl (.int 0), .inl (.int 0)]),
  .inr (.int, 10, .inl (.int 0), []),
  .inr (.int, 10, .inl (.int 0), []),
  .inr (.int, 10, .inl (.int 0), []),
  .inr (.int, 200, .inl (.int 0), []),
  .inl (0, [.inr (.inl 53), .inr (.inl 54), .inr (.inl 55), .inr (.inl 56), .inr (.inl 57), .inr (.inl 58), .inr (.inl 59), .inl (.int 0), .inl (.int 0), .inl (.int 0)]),
  .inr (.long, 8, .inl (.long 0), []),
  .inr (.int, 8, .inl (.int 0), []),
  .inr (.int, 8, .inl (.int 0), []),
  .inr (.int, 8, .inl (.int 0), []),
  .inr (.int, 8, .inl (.int 0), []),
  .inr (.int, 8, .inl (.int 0), []),
  .inr (.int, 160, .inl (.int 0), []),
  .inl (9, [.inr (.inl 61), .inr (.inl 62), .inr (.inl 63), .inr (.inl 64), .inr (.inl 65), .inr (.inl 66), .inl (.int 0), .inl (.int 0)]),
  .inr (.int, 30, .inl (.int 0), []),
  .inr (.int, 30, .inl (.int 0), []),
  .inr (.int, 30, .inl (.int 0), []),
  .inr (.int, 30, .inl (.int 0), []),
  .inr (.int, 30, .inl (.int 0), []),
  .inr (.int, 30, .inl (.int 0), []),
  .inr ((.object "GooseIce$Lake"), 3, .inl .null, [(2, .inr (.inl 244)), (1, .inr (.inl 218)), (0, .inr (.inl 192))]),
  .inl (6, [.inr (.inl 69), .inr (.inl 70), .inr (.inl 71), .inr (.inl 72), .inl (.int 0), .inl (.int 0)]),
  .inr (.int, 10, .inl (.int 0), []),
  .inr (.int, 11, .inl (.int 0), []),
  .inr (.int, 10, .inl (.int 0), []),
  .inr (.int, 1024, .inl (.int 0), []),
  .inl (7, [.inr (.inl 74), .inr (.inl 75), .inr (.inl 76), .inr (.inl 77), .inr (.inl 78), .inr (.inl 79), .inr (.inl 80), .inl (.int 0), .inl (.int 0), .inl (.int 0), .inl (.int 0)]),
  .inr ((.object "GooseIce$Lake"), 4, .inl .null, [(3, .inr (.inl 159)), (2, .inr (.inl 133)), (1, .inr (.inl 107)), (0, .inr (.inl 81))]),
  .inr (.int, 4, .inl (.int 0), []),
  .inr (.int, 4, .inl (.int 0), []),
  .inr (.int, 4, .inl (.int 0), []),
  .inr (.int, 4, .inl (.int 0), []),
  .inr (.int, 4, .inl (.int 0), []),
  .inr (.int, 12, .inl (.int 0), []),
  .inl (3, [.inr (.inl 82), .inr (.inl 83), .inr (.inl 84), .inr (.inl 85), .inr (.inl 86), .inr (.inl 87), .inr (.inl 92), .inr (.inl 100), .inl (.int 0), .inl (.int 0), .inl (.int 2), .inl (.int 4), .inl (.int 1), .inl (.int 0)]),
  .inr (.long, 10, .inl (.long 0), []),
  .inr (.int, 10, .inl (.int 0), []),
  .inr (.int, 10, .inl (.int 0), []),
  .inr (.int, 10, .inl (.int 0), []),
  .inr (.int, 10, .inl (.int 0), []),
  .inl (2, [.inr (.inl 88), .inr (.inl 89), .inr (.inl 90), .inr (.inl 91), .inl (.int 0), .inl (.int 0)]),
  .inr (.int, 10, .inl (.int 0), []),
  .inr (.int, 10, .inl (.int 0), []),
  .inr (.int, 10, .inl (.int 0), []),
  .inr (.int, 200, .inl (.int 0), []),
  .inl (0, [.inr (.inl 93), .inr (.inl 94), .inr (.inl 95), .inr (.inl 96), .inr (.inl 97), .inr (.inl 98), .inr (.inl 99), .inl (.int 0), .inl (.int 0), .inl (.int 0)]),
  .inr (.long, 8, .inl (.long 0), []),
  .inr (.int, 8, .inl (.int 0), []),
  .inr (.int, 8, .inl (.int 0), []),
  .inr (.int, 8, .inl (.int 0), []),
  .inr (.int, 8, .inl (.int 0), []),
  .inr (.int, 8, .inl (.int 0), []),
  .inr (.int, 160, .inl (.int 0), []),
  .inl (9, [.inr (.inl 101), .inr (.inl 102), .inr (.inl 103), .inr (.inl 104), .inr (.inl 105), .inr (.inl 106), .inl (.int 0), .inl (.int 0)]),
  .inr (.int, 30, .inl (.int 0), []),
  .inr (.int, 30, .inl (.int 0), []),
  .inr (.int, 30, .inl (.int 0), []),
  .inr (.int, 30, .inl (.int 0), []),
  .inr (.int, 30, .inl (.int 0), []),
  .inr (.int, 30, .inl (.int 0), []),
  .inl (3, [.inr (.inl 108), .inr (.inl 109), .inr (.inl 110), .inr (.inl 111), .inr (.inl 112), .inr (.inl 113), .inr (.inl 118), .inr (.inl 126), .inl (.int 0), .inl (.int 0), .inl (.int 2), .inl (.int 4), .inl (.int 1), .inl (.int 0)]),
  .inr (.long, 10, .inl (.long 0), []),
  .inr (.int, 10, .inl (.int 0), []),
  .inr (.int, 10, .inl (.int 0), []),
  .inr (.int, 10, .inl (.int 0), []),
  .inr (.int, 10, .inl (.int 0), []),
  .inl (2, [.inr (.inl 114), .inr (.inl 115), .inr (.inl 116), .inr (.inl 117), .inl (.int 0), .inl (.int 0)]),
  .inr (.int, 10, .inl (.int 0), []),
  .inr (.int, 10, .inl (.int 0), []),
  .inr (.int, 10, .inl (.int 0), []),
  .inr (.int, 200, .inl (.int 0), []),
  .inl (0, [.inr (.inl 119), .inr (.inl 120), .inr (.inl 121), .inr (.inl 122), .inr (.inl 123), .inr (.inl 124), .inr (.inl 125), .inl (.int 0), .inl (.int 0), .inl (.int 0)]),
  .inr (.long, 8, .inl (.long 0), []),
  .inr (.int, 8, .inl (.int 0), []),
  .inr (.int, 8, .inl (.int 0), []),
  .inr (.int, 8, .inl (.int 0), []),
  .inr (.int, 8, .inl (.int 0), []),
  .inr (.int, 8, .inl (.int 0), []),
  .inr (.int, 160, .inl (.int 0), []),
  .inl (9, [.inr (.inl 127), .inr (.inl 128), .inr (.inl 129), .inr (.inl 130), .inr (.inl 131), .inr (.inl 132), .inl (.int 0), .inl (.int 0)]),
  .inr (.int, 30, .inl (.int 0), []),
  .inr (.int, 30, .inl (.int 0), []),
  .inr (.int, 30, .inl (.int 0), []),
  .inr (.int, 30, .inl (.int 0), []),
  .inr (.int, 30, .inl (.int 0), []),
  .inr (.int, 30, .inl (.int 0), []),
  .inl (3, [.inr (.inl 134), .inr (.inl 135), .inr (.inl 136), .inr (.inl 137), .inr (.inl 138), .inr (.inl 139), .inr (.inl 144), .inr (.inl 152), .inl (.int 0), .inl (.int 0), .inl (.int 2), .inl (.int 4), .inl (.int 1), .inl (.int 0)]),
  .inr (.long, 10, .inl (.long 0), []),
  .inr (.int, 10, .inl (.int 0), []),
  .inr (.int, 10, .inl (.int 0), []),
  .inr (.int, 10, .inl (.int 0), []),
  .inr (.int, 10, .inl (.int 0), []),
  .inl (2, [.inr (.inl 140), .inr (.inl 141), .inr (.inl 142), .inr (.inl 143), .inl (.int 0), .inl (.int 0)]),
  .inr (.int, 10, .inl (.int 0), []),
  .inr (.int, 10, .inl (.int 0), []),
  .inr (.int, 10, .inl (.int 0), []),
  .inr (.int, 200, .inl (.int 0), []),
  .inl (0, [.inr (.inl 145), .inr (.inl 146), .inr (.inl 147), .inr (.inl 148), .inr (.inl 149), .inr (.inl 150), .inr (.inl 151), .inl (.int 0), .inl (.int 0), .inl (.int 0)]),
  .inr (.long, 8, .inl (.long 0), []),
  .inr (.int, 8, .inl (.int 0), []),
  .inr (.int, 8, .inl (.int 0), []),
  .inr (.int, 8, .inl (.int 0), []),
  .inr (.int, 8, .inl (.int 0), []),
  .inr (.int, 8, .inl (.int 0), []),
  .inr (.int, 160, .inl (.int 0), []),
  .inl (9, [.inr (.inl 153), .inr (.inl 154), .inr (.inl 155), .inr (.inl 156), .inr (.inl 157), .inr (.inl 158), .inl (.int 0), .inl (.int 0)]),
  .inr (.int, 30, .inl (.int 0), []),
  .inr (.int, 30, .inl (.int 0), []),
  .inr (.int, 30, .inl (.int 0), []),
  .inr (.int, 30, .inl (.int 0), []),
  .inr (.int, 30, .inl (.int 0), []),
  .inr (.int, 30, .inl (.int 0), []),
  .inl (3, [.inr (.inl 160), .inr (.inl 161), .inr (.inl 162), .inr (.inl 163), .inr (.inl 164), .inr (.inl 165), .inr (.inl 170), .inr (.inl 178), .inl (.int 0), .inl (.int 0), .inl (.int 2), .inl (.int 4), .inl (.int 1), .inl (.int 0)]),
  .inr (.long, 10, .inl (.long 0), []),
  .inr (.int, 10, .inl (.int 0), []),
  .inr (.int, 10, .inl (.int 0), []),
  .inr (.int, 10, .inl (.int 0), []),
  .inr (.int, 10, .inl (.int 0), []),
  .inl (2, [.inr (.inl 166), .inr (.inl 167), .inr (.inl 168), .inr (.inl 169), .inl (.int 0), .inl (.int 0)]),
  .inr (.int, 10, .inl (.int 0), []),
  .inr (.int, 10, .inl (.int 0), []),
  .inr (.int, 10, .inl (.int 0), []),
  .inr (.int, 200, .inl (.int 0), []),
  .inl (0, [.inr (.inl 171), .inr (.inl 172), .inr (.inl 173), .inr (.inl 174), .inr (.inl 175), .inr (.inl 176), .inr (.inl 177), .inl (.int 0), .inl (.int 0), .inl (.int 0)]),
  .inr (.long, 8, .inl (.long 0), []),
  .inr (.int, 8, .inl (.int 0), []),
  .inr (.int, 8, .inl (.int 0), []),
  .inr (.int, 8, .inl (.int 0), []),
  .inr (.int, 8, .inl (.int 0), []),
  .inr (.int, 8, .inl (.int 0), []),
  .inr (.int, 160, .inl (.int 0), []),
  .inl (9, [.inr (.inl 179), .inr (.inl 180), .inr (.inl 181), .inr (.inl 182), .inr (.inl 183), .inr (.inl 184), .inl (.int 0), .inl (.int 0)]),
  .inr (.int, 30, .inl (.int 0), []),
  .inr (.int, 30, .inl (.int 0), []),
  .inr (.int, 30, .inl (.int 0), []),
  .inr (.int, 30, .inl (.int 0), []),
  .inr (.int, 30, .inl (.int 0), []),
  .inr (.int, 30, .inl (.int 0), []),
  .inl (1, [.inr (.inl 186), .inr (.inl 187), .inl (.int 0)]),
  .inr (.long, 21, .inl (.long 0), []),
  .inr (.long, 21, .inl (.long 0), []),
  .inl (5, [.inr (.inl 68), .inr (.inl 189), .inr (.inl 190), .inl (.int 0), .inl (.int 0), .inl (.int 0), .inl (.int 0), .inl (.int 0), .inl (.int 0), .inl (.int 0), .inl (.int 0)]),
  .inr (.int, 3, .inl (.int 0), []),
  .inr (.int, 3, .inl (.int 0), []),
  .inr (.int, 5, .inl (.int 0), []),
  .inl (3, [.inr (.inl 193), .inr (.inl 194), .inr (.inl 195), .inr (.inl 196), .inr (.inl 197), .inr (.inl 198), .inr (.inl 203), .inr (.inl 211), .inl (.int 0), .inl (.int 0), .inl (.int 2), .inl (.int 4), .inl (.int 1), .inl (.int 0)]),
  .inr (.long, 10, .inl (.long 0), []),
  .inr (.int, 10, .inl (.int 0), []),
  .inr (.int, 10, .inl (.int 0), []),
  .inr (.int, 10, .inl (.int 0), []),
  .inr (.int, 10, .inl (.int 0), []),
  .inl (2, [.inr (.inl 199), .inr (.inl 200), .inr (.inl 201), .inr (.inl 202), .inl (.int 0), .inl (.int 0)]),
  .inr (.int, 10, .inl (.int 0), []),
  .inr (.int, 10, .inl (.int 0), []),
  .inr (.int, 10, .inl (.int 0), []),
  .inr (.int, 200, .inl (.int 0), []),
  .inl (0, [.inr (.inl 204), .inr (.inl 205), .inr (.inl 206), .inr (.inl 207), .inr (.inl 208), .inr (.inl 209), .inr (.inl 210), .inl (.int 0), .inl (.int 0), .inl (.int 0)]),
  .inr (.long, 8, .inl (.long 0), []),
  .inr (.int, 8, .inl (.int 0), []),
  .inr (.int, 8, .inl (.int 0), []),
  .inr (.int, 8, .inl (.int 0), []),
  .inr (.int, 8, .inl (.int 0), []),
  .inr (.int, 8, .inl (.int 0), []),
  .inr (.int, 160, .inl (.int 0), []),
  .inl (9, [.inr (.inl 212), .inr (.inl 213), .inr (.inl 214), .inr (.inl 215), .inr (.inl 216), .inr (.inl 217), .inl (.int 0), .inl (.int 0)]),
  .inr (.int, 30, .inl (.int 0), []),
  .inr (.int, 30, .inl (.int 0), []),
  .inr (.int, 30, .inl (.int 0), []),
  .inr (.int, 30, .inl (.int 0), []),
  .inr (.int, 30, .inl (.int 0), []),
  .inr (.int, 30, .inl (.int 0), []),
  .inl (3, [.inr (.inl 219), .inr (.inl 220), .inr (.inl 221), .inr (.inl 222), .inr (.inl 223), .inr (.inl 224), .inr (.inl 229), .inr (.inl 237), .inl (.int 0), .inl (.int 0), .inl (.int 2), .inl (.int 4), .inl (.int 1), .inl (.int 0)]),
  .inr (.long, 10, .inl (.long 0), []),
  .inr (.int, 10, .inl (.int 0), []),
  .inr (.int, 10, .inl (.int 0), []),
  .inr (.int, 10, .inl (.int 0), []),
  .inr (.int, 10, .inl (.int 0), []),
  .inl (2, [.inr (.inl 225), .inr (.inl 226), .inr (.inl 227), .inr (.inl 228), .inl (.int 0), .inl (.int 0)]),
  .inr (.int, 10, .inl (.int 0), []),
  .inr (.int, 10, .inl (.int 0), []),
  .inr (.int, 10, .inl (.int 0), []),
  .inr (.int, 200, .inl (.int 0), []),
  .inl (0, [.inr (.inl 230), .inr (.inl 231), .inr (.inl 232), .inr (.inl 233), .inr (.inl 234), .inr (.inl 235), .inr (.inl 236), .inl (.int 0), .inl (.int 0), .inl (.int 0)]),
  .inr (.long, 8, .inl (.long 0), []),
  .inr (.int, 8, .inl (.int 0), []),
  .inr (.int, 8, .inl (.int 0), []),
  .inr (.int, 8, .inl (.int 0), []),
  .inr (.int, 8, .inl (.int 0), []),
  .inr (.int, 8, .inl (.int 0), []),
  .inr (.int, 160, .inl (.int 0), []),
  .inl (9, [.inr (.inl 238), .inr (.inl 239), .inr (.inl 240), .inr (.inl 241), .inr (.inl 242), .inr (.inl 243), .inl (.int 0), .inl (.int 0)]),
  .inr (.int, 30, .inl (.int 0), []),
  .inr (.int, 30, .inl (.int 0), []),
  .inr (.int, 30, .inl (.int 0), []),
  .inr (.int, 30, .inl (.int 0), []),
  .inr (.int, 30, .inl (.int 0), []),
  .inr (.int, 30, .inl (.int 0), []),
  .inl (3, [.inr (.inl 245), .inr (.inl 246), .inr (.inl 247), .inr (.inl 248), .inr (.inl 249), .inr (.inl 250), .inr (.inl 255), .inr (.inl 263), .inl (.int 0), .inl (.int 0), .inl (.int 2), .inl (.int 4), .inl (.int 1), .inl (.int 0)]),
  .inr (.long, 10, .inl (.long 0), []),
  .inr (.int, 10, .inl (.int 0), []),
  .inr (.int, 10, .inl (.int 0), []),
  .inr (.int, 10, .inl (.int 0), []),
  .inr (.int, 10, .inl (.int 0), []),
  .inl (2, [.inr (.inl 251), .inr (.inl 252), .inr (.inl 253), .inr (.inl 254), .inl (.int 0), .inl (.int 0)]),
  .inr (.int, 10, .inl (.int 0), []),
  .inr (.int, 10, .inl (.int 0), []),
  .inr (.int, 10, .inl (.int 0), []),
  .inr (.int, 200, .inl (.int 0), []),
  .inl (0, [.inr (.inl 256), .inr (.inl 257), .inr (.inl 258), .inr (.inl 259), .inr (.inl 260), .inr (.inl 261), .inr (.inl 262), .inl (.int 0), .inl (.int 0), .inl (.int 0)]),
  .inr (.long, 8, .inl (.long 0), []),
  .inr (.int, 8, .inl (.int 0), []),
  .inr (.int, 8, .inl (.int 0), []),
  .inr (.int, 8, .inl (.int 0), []),
  .inr (.int, 8, .inl (.int 0), []),
  .inr (.int, 8, .inl (.int 0), []),
  .inr (.int, 160, .inl (.int 0), []),
  .inl (9, [.inr (.inl 264), .inr (.inl 265), .inr (.inl 266), .inr (.inl 267), .inr (.inl 268), .inr (.inl 269), .inl (.int 0), .inl (.int 0)]),
  .inr (.int, 30, .inl (.int 0), []),
  .inr (.int, 30, .inl (.int 0), []),
  .inr (.int, 30, .inl (.int 0), []),
  .inr (.int, 30, .inl (.int 0), []),
  .inr (.int, 30, .inl (.int 0), []),
  .inr (.int, 30, .inl (.int 0), [])]
def gk_X126 : rk_O := (269, 8747, [(none, gk_env 0 3072, gk_h126, 269, 8747)])
def gk_h201 : List rk_H := [.inl (12, [.inr (.inl 1), .inr (.inl 2), .inl (.int 0), .inl (.long 0), .inl (.long 1), .inr (.inl 3), .inr (.inl 4), .inr (.inl 5), .inr (.inl 6), .inr (.inl 7), .inl (.int 0), .inl (.int 0), .inl (.int 0), .inl (.int 0), .inl (.int 0), .inl (.int 0), .inl (.int (-1)), .inl (.int (-1)), .inl (.int 0), .inl (.int 0), .inl (.int 0), .inr (.inl 8), .inl (.int 0), .inl (.int 0), .inr (.inl 9), .inl (.int 0), .inr (.inl 10), .inr (.inl 11), .inr (.inl 12), .inr (.inl 13), .inl (.int 0), .inr (.inl 14), .inr (.inl 15), .inr (.inl 16), .inr (.inl 17), .inr (.inl 18), .inl (.int 0), .inl (.int 0), .inr (.inl 19), .inr (.inl 20), .inr (.inl 21), .inl (.int 0), .inl (.int 0)]),
  .inr (.int, 5894, .inl (.int 0), [(6, .inl (.int (-1))), (4, .inl (.int 1)), (3, .inl (.int 4)), (2, .inl (.int 2))]),
  .inr (.long, 108, .inl (.long 0), []),
  .inr (.int, 4, .inl (.int 0), []),
  .inr (.int, 4, .inl (.int 0), [(3, .inl (.int (-1))), (2, .inl (.int (-1))), (1, .inl (.int (-1))), (0, .inl (.int (-1)))]),
  .inr (.long, 240, .inl (.long 0), []),
  .inr (.byte, 900, .inl (.int 0), []),
  .inr (.byte, 900, .inl (.int 0), []),
  .inr (.int, 3, .inl (.int 0), []),
  .inr (.int, 10, .inl (.int 0), []),
  .inr (.int, 4, .inl (.int 0), []),
  .inr (.int, 4, .inl (.int 0), []),
  .inr (.int, 4, .inl (.int 0), []),
  .inr (.int, 4, .inl (.int 0), []),
  .inr (.int, 256, .inl (.int 0), []),
  .inr (.int, 427, .inl (.int 0), []),
  .inr (.int, 10, .inl (.int 0), []),
  .inr (.long, 21, .inl (.long 0), []),
  .inr (.long, 21, .inl (.long 0), []),
  .inr (.int, 80, .inl (.int 0), []),
  .inr (.int, 5, .inl (.int 0), []),
  .inr (.int, 5, .inl (.int 0), [])]
def gk_X201 : rk_O := (21, 8904, [(none, gk_env 0 3072, gk_h201, 21, 8904)])
def gk_eq1 (a b : List (Nat × rk_V)) : Bool := decide (a = b)
def gk_eq2 (a b : List rk_V) : Bool := decide (a = b)
def gk_eq3 (a b : List rk_T) : Bool := decide (a = b)
def gk_eqD (a b : rk_D) : Bool := decide (a.1 = b.1) && (decide (a.2.1 = b.2.1) && (decide (a.2.2.1 = b.2.2.1) && gk_eq1 a.2.2.2 b.2.2.2))
def gk_eqH : rk_H → rk_H → Bool
  | .inl a, .inl b => decide (a.1 = b.1) && gk_eq2 a.2 b.2
  | .inr a, .inr b => gk_eqD a b
  | _, _ => false
def gk_eqL : List rk_H → List rk_H → Bool
  | [], [] => true
  | a :: l, b :: k => gk_eqH a b && gk_eqL l k
  | _, _ => false
def gk_eqS (a b : rk_S) : Bool := gk_eq1 a.1 b.1 && (gk_eq2 a.2.1 b.2.1 && (gk_eq3 a.2.2.1 b.2.2.1 && (gk_eqL a.2.2.2.1 b.2.2.2.1 && (decide (a.2.2.2.2.1 = b.2.2.2.2.1) && decide (a.2.2.2.2.2 = b.2.2.2.2.2)))))
theorem gk_eqD_ok {a b : rk_D} (h : gk_eqD a b = true) : a = b := by
  simp only [gk_eqD, gk_eq1, Bool.and_eq_true, decide_eq_true_eq] at h
  exact Prod.ext h.1 (Prod.ext h.2.1 (Prod.ext h.2.2.1 h.2.2.2))
theorem gk_eqH_ok {a b : rk_H} (h : gk_eqH a b = true) : a = b := by
  rcases a with a | a <;> rcases b with b | b
  · simp only [gk_eqH, gk_eq2, Bool.and_eq_true, decide_eq_true_eq] at h
    exact congrArg Sum.inl (Prod.ext h.1 h.2)
  · cases h
  · cases h
  · exact congrArg Sum.inr (gk_eqD_ok h)
theorem gk_eqL_ok : ∀ {a b : List rk_H}, gk_eqL a b = true → a = b := by
  intro a
  induction a with
  | nil => intro b h; cases b with
    | nil => rfl
    | cons y k => cases h
  | cons x l ih => intro b h; cases b with
    | nil => cases h
    | cons y k =>
      simp only [gk_eqL, Bool.and_eq_true] at h
      rw [gk_eqH_ok h.1, ih h.2]
theorem gk_eqS_ok {a b : rk_S} (h : gk_eqS a b = true) : a = b := by
  simp only [gk_eqS, gk_eq1, gk_eq2, gk_eq3, Bool.and_eq_true, decide_eq_true_eq] at h
  exact Prod.ext h.1 (Prod.ext h.2.1 (Prod.ext h.2.2.1 (Prod.ext (gk_eqL_ok h.2.2.2.1) (Prod.ext h.2.2.2.2.1 h.2.2.2.2.2))))
def gk_stop (at_ : Nat) (S : rk_S) : rk_Ext := fun pc ins st => if pc = at_ then (if gk_eqS st S = true then some [] else none) else rk_lawx pc ins st
def gk_eqX (a b : rk_X) : Bool := decide (a.1 = b.1) && (gk_eq3 a.2.1 b.2.1 && (gk_eqL a.2.2.1 b.2.2.1 && (decide (a.2.2.2.1 = b.2.2.2.1) && decide (a.2.2.2.2 = b.2.2.2.2))))
def gk_eqO (a : Option rk_O) (b : rk_O) : Bool := match a, b with
  | some (c, n, [x]), (c', n', [y]) => decide (c = c') && (decide (n = n') && gk_eqX x y)
  | _, _ => false
theorem gk_eqX_ok {a b : rk_X} (h : gk_eqX a b = true) : a = b := by
  simp only [gk_eqX, gk_eq3, Bool.and_eq_true, decide_eq_true_eq] at h
  exact Prod.ext h.1 (Prod.ext h.2.1 (Prod.ext (gk_eqL_ok h.2.2.1) (Prod.ext h.2.2.2.1 h.2.2.2.2)))
theorem gk_eqO_ok {a : Option rk_O} {b : rk_O} (h : gk_eqO a b = true) : a = some b := by
  unfold gk_eqO at h
  split at h
  · simp only [Bool.and_eq_true, decide_eq_true_eq] at h
    rw [h.1, h.2.1, gk_eqX_ok h.2.2]
  · cases h
def gk_newc (ci : Nat) : rk_H := .inl (ci, (gk_fty.getD ci []).map (fun t => .inl (defaultValue t.1)))
def gk_good1 (o : Option rk_O) : Bool := match o with
  | some o => decide (o.1 ≤ 600000) && (decide (o.2.1 ≤ 7302250) && o.2.2.all (fun x => decide (x.1 = some (.inl (.int 1)))))
  | none => false
def gk_call : Nat → List rk_V → List rk_T → List rk_H → Option rk_O := rk_run gk_P gk_fty gk_cln gk_mci gk_sum 30000 40
def gk_ctor (F ci : Nat) (X : rk_O) (f : Nat) (as : List rk_V) (env : List rk_T) (hp : List rk_H) : Option rk_O := if f = F ∧ gk_eq2 as [.inr (.inl 0)] = true ∧ gk_eq3 env (gk_env 0 3072) = true ∧ gk_eqL hp [gk_newc ci] = true then some X else none
def gk_call2 (f : Nat) (as : List rk_V) (env : List rk_T) (hp : List rk_H) : Option rk_O := match as with
  | .inr (.inl j) :: _ => if f = 126 then gk_ctor 126 11 gk_X126 f as env hp else if f = 201 then rk_suf (gk_ctor 201 12 gk_X201) 270 f as env hp else if j = 270 then rk_suf gk_call 270 f as env hp else rk_pfx gk_call 270 f as env hp
  | _ => none
def gk_go (ext : rk_Ext) (l : List (Nat × Instr × Nat)) (q : Nat × rk_S) : Bool := gk_good1 (rk_loop gk_fty gk_cln gk_mci gk_call2 ext (gk_lM l) 30000 q)
def gk_q0 (lo hi : Int) : Nat × rk_S := (0, ([(0, .inr (.inr (.inl 6)))], [], gk_env lo hi, [], 0, 0))
end MH29_1
section MH29_2
/-! ===== the one text of the class: what is known of it; the JDK's length and charAt over it ===== -/
def sg_X (a v : Nat) (A : Nat → Prop) (U : State) (H : Heap) : Prop := va_O "java/lang/String" a A U H ∧ va_OF "java/lang/String" "coder" "B" (.int 0) a A U H ∧ va_OF "java/lang/String" "value" "[B" (.ref v) a A U H ∧ va_T .byte v sg_n (fun j => .int (sg_b.getD j 0)) A U H ∧ va_Z "java/lang/String" "COMPACT_STRINGS" "Z" (.int 1) A U H ∧ va_Zq "jdk/internal/util/Preconditions" "SIOOBE_FORMATTER" "Ljava/util/function/BiFunction;" A U H
theorem sg_X.moved {a v : Nat} {A : Nat → Prop} {u U : State} {H : Heap} (hvm : u.vm.Alike U.vm) (h : sg_X a v A u H) : sg_X a v A U H := ⟨va_O.moved hvm h.1, va_OF.moved hvm h.2.1, va_OF.moved hvm h.2.2.1, va_T.moved hvm h.2.2.2.1, va_Z.moved hvm h.2.2.2.2.1, va_Zq.moved hvm h.2.2.2.2.2⟩
theorem sg_X.kept {a v : Nat} {A : Nat → Prop} {U : State} {H H1 : Heap} (h : sg_X a v A U H) (hq : ∀ a : Nat, a < H.size → ¬ A a → H1[a]? = H[a]?) : sg_X a v A U H1 := ⟨h.1.kept hq, h.2.1.kept hq, h.2.2.1.kept hq, h.2.2.2.1.kept hq, h.2.2.2.2.1.kept hq, h.2.2.2.2.2.kept hq⟩
theorem sg_X.narrow {a v : Nat} {A B : Nat → Prop} {U : State} {H : Heap} (h : sg_X a v A U H) (hAB : ∀ q, B q → A q) : sg_X a v B U H := ⟨h.1.narrow hAB, h.2.1.narrow hAB, h.2.2.1.narrow hAB, h.2.2.2.1.narrow hAB, h.2.2.2.2.1.narrow hAB, h.2.2.2.2.2.narrow hAB⟩
theorem sg_pre {a v : Nat} {A : Nat → Prop} {s U : State} {H : Heap} {locs : List Loc} (h : sg_X a v A s s.heap) (hS : va_S A s.heap H locs) (hA : ∀ q, s.heap.size ≤ q → A q) (hU : U.heap = H) (hW : s.WarmedH U.vm) : sg_X a v (fun q => H.size ≤ q) U U.heap := by
  rw [hU]
  exact ((h.kept hS.2.1).narrow (fun q hq => hA q (Nat.le_trans hS.1 hq))).moved hW.alike
def sg_Pc (av : List Value) (a v sz : Nat) : Array Value → State → Prop := fun w U => w = av.toArray ∧ U.heap.size = sz ∧ sg_X a v (fun q => sz ≤ q) U U.heap
theorem sg_blind (av : List Value) (a v sz : Nat) : FrameBlind (sg_Pc av a v sz) := fun w U g mk q => ⟨q.1, q.2.1, sg_X.moved (u := U) (U := U.calling g mk w) (Vm.Alike.refl U.vm) q.2.2⟩
abbrev sg_Q (r : Int32) (sz : Nat) : Array Value → State → Outcome → State → Prop := va_Qi (S := Unit) (fun r' _ => r' = r) (fun _ _ => True) (fun q => sz ≤ q)
abbrev sg_Qv (sz : Nat) : Array Value → State → Outcome → State → Prop := va_Qv (S := Unit) (fun _ => True) (fun _ _ => True) (fun q => sz ≤ q)
theorem sg_d377_0 : decode gk_N377.2.2 0 = .ok (.aload_n 0, 1) := by decide +kernel
theorem sg_d377_1 : decode gk_N377.2.2 1 = .ok (.getfield 9, 3) := by decide +kernel
theorem sg_d377_4 : decode gk_N377.2.2 4 = .ok (.arraylength, 1) := by decide +kernel
theorem sg_d377_5 : decode gk_N377.2.2 5 = .ok (.aload_n 0, 1) := by decide +kernel
theorem sg_d377_6 : decode gk_N377.2.2 6 = .ok (.invokevirtual 335, 3) := by decide +kernel
theorem sg_d377_9 : decode gk_N377.2.2 9 = .ok (.ishr, 1) := by decide +kernel
theorem sg_d377_10 : decode gk_N377.2.2 10 = .ok (.ireturn, 1) := by decide +kernel
theorem sg_d378_0 : decode gk_N378.2.2 0 = .ok (.aload_n 0, 1) := by decide +kernel
theorem sg_d378_1 : decode gk_N378.2.2 1 = .ok (.invokevirtual 492, 3) := by decide +kernel
theorem sg_d378_4 : decode gk_N378.2.2 4 = .ok (.ifCond .eq 12, 3) := by decide +kernel
theorem sg_d378_7 : decode gk_N378.2.2 7 = .ok (.aload_n 0, 1) := by decide +kernel
theorem sg_d378_8 : decode gk_N378.2.2 8 = .ok (.getfield 9, 3) := by decide +kernel
theorem sg_d378_11 : decode gk_N378.2.2 11 = .ok (.iload_n 1, 1) := by decide +kernel
theorem sg_d378_12 : decode gk_N378.2.2 12 = .ok (.invokestatic 495, 3) := by decide +kernel
theorem sg_d378_15 : decode gk_N378.2.2 15 = .ok (.ireturn, 1) := by decide +kernel
theorem sg_d378_16 : decode gk_N378.2.2 16 = .ok (.aload_n 0, 1) := by decide +kernel
theorem sg_d378_17 : decode gk_N378.2.2 17 = .ok (.getfield 9, 3) := by decide +kernel
theorem sg_d378_20 : decode gk_N378.2.2 20 = .ok (.iload_n 1, 1) := by decide +kernel
theorem sg_d378_21 : decode gk_N378.2.2 21 = .ok (.invokestatic 498, 3) := by decide +kernel
theorem sg_d378_24 : decode gk_N378.2.2 24 = .ok (.ireturn, 1) := by decide +kernel
theorem sg_d379_0 : decode gk_N379.2.2 0 = .ok (.getstatic 38, 3) := by decide +kernel
theorem sg_d379_3 : decode gk_N379.2.2 3 = .ok (.ifCond .eq 10, 3) := by decide +kernel
theorem sg_d379_6 : decode gk_N379.2.2 6 = .ok (.aload_n 0, 1) := by decide +kernel
theorem sg_d379_7 : decode gk_N379.2.2 7 = .ok (.getfield 15, 3) := by decide +kernel
theorem sg_d379_10 : decode gk_N379.2.2 10 = .ok (.goto 4, 3) := by decide +kernel
theorem sg_d379_13 : decode gk_N379.2.2 13 = .ok (.iconst 1, 1) := by decide +kernel
theorem sg_d379_14 : decode gk_N379.2.2 14 = .ok (.ireturn, 1) := by decide +kernel
theorem sg_d380_0 : decode gk_N380.2.2 0 = .ok (.getstatic 38, 3) := by decide +kernel
theorem sg_d380_3 : decode gk_N380.2.2 3 = .ok (.ifCond .eq 14, 3) := by decide +kernel
theorem sg_d380_6 : decode gk_N380.2.2 6 = .ok (.aload_n 0, 1) := by decide +kernel
theorem sg_d380_7 : decode gk_N380.2.2 7 = .ok (.getfield 15, 3) := by decide +kernel
theorem sg_d380_10 : decode gk_N380.2.2 10 = .ok (.ifCond .ne 7, 3) := by decide +kernel
theorem sg_d380_13 : decode gk_N380.2.2 13 = .ok (.iconst 1, 1) := by decide +kernel
theorem sg_d380_14 : decode gk_N380.2.2 14 = .ok (.goto 4, 3) := by decide +kernel
theorem sg_d380_17 : decode gk_N380.2.2 17 = .ok (.iconst 0, 1) := by decide +kernel
theorem sg_d380_18 : decode gk_N380.2.2 18 = .ok (.ireturn, 1) := by decide +kernel
theorem sg_d381_0 : decode gk_N381.2.2 0 = .ok (.iload_n 0, 1) := by decide +kernel
theorem sg_d381_1 : decode gk_N381.2.2 1 = .ok (.iload_n 1, 1) := by decide +kernel
theorem sg_d381_2 : decode gk_N381.2.2 2 = .ok (.getstatic 1053, 3) := by decide +kernel
theorem sg_d381_5 : decode gk_N381.2.2 5 = .ok (.invokestatic 1059, 3) := by decide +kernel
theorem sg_d381_8 : decode gk_N381.2.2 8 = .ok (.pop, 1) := by decide +kernel
theorem sg_d381_9 : decode gk_N381.2.2 9 = .ok (.return_, 1) := by decide +kernel
theorem sg_d382_0 : decode gk_N382.2.2 0 = .ok (.iload_n 1, 1) := by decide +kernel
theorem sg_d382_1 : decode gk_N382.2.2 1 = .ok (.aload_n 0, 1) := by decide +kernel
theorem sg_d382_2 : decode gk_N382.2.2 2 = .ok (.arraylength, 1) := by decide +kernel
theorem sg_d382_3 : decode gk_N382.2.2 3 = .ok (.invokestatic 9, 3) := by decide +kernel
theorem sg_d382_6 : decode gk_N382.2.2 6 = .ok (.aload_n 0, 1) := by decide +kernel
theorem sg_d382_7 : decode gk_N382.2.2 7 = .ok (.iload_n 1, 1) := by decide +kernel
theorem sg_d382_8 : decode gk_N382.2.2 8 = .ok (.baload, 1) := by decide +kernel
theorem sg_d382_9 : decode gk_N382.2.2 9 = .ok (.sipush 255, 3) := by decide +kernel
theorem sg_d382_12 : decode gk_N382.2.2 12 = .ok (.iand, 1) := by decide +kernel
theorem sg_d382_13 : decode gk_N382.2.2 13 = .ok (.i2c, 1) := by decide +kernel
theorem sg_d382_14 : decode gk_N382.2.2 14 = .ok (.ireturn, 1) := by decide +kernel
theorem sg_d389_0 : decode gk_N389.2.2 0 = .ok (.iload_n 0, 1) := by decide +kernel
theorem sg_d389_1 : decode gk_N389.2.2 1 = .ok (.ifCond .lt 8, 3) := by decide +kernel
theorem sg_d389_4 : decode gk_N389.2.2 4 = .ok (.iload_n 0, 1) := by decide +kernel
theorem sg_d389_5 : decode gk_N389.2.2 5 = .ok (.iload_n 1, 1) := by decide +kernel
theorem sg_d389_6 : decode gk_N389.2.2 6 = .ok (.if_icmp .lt 10, 3) := by decide +kernel
theorem sg_d389_9 : decode gk_N389.2.2 9 = .ok (.aload_n 2, 1) := by decide +kernel
theorem sg_d389_10 : decode gk_N389.2.2 10 = .ok (.iload_n 0, 1) := by decide +kernel
theorem sg_d389_11 : decode gk_N389.2.2 11 = .ok (.iload_n 1, 1) := by decide +kernel
theorem sg_d389_12 : decode gk_N389.2.2 12 = .ok (.invokestatic 95, 3) := by decide +kernel
theorem sg_d389_15 : decode gk_N389.2.2 15 = .ok (.athrow, 1) := by decide +kernel
theorem sg_d389_16 : decode gk_N389.2.2 16 = .ok (.iload_n 0, 1) := by decide +kernel
theorem sg_d389_17 : decode gk_N389.2.2 17 = .ok (.ireturn, 1) := by decide +kernel
set_option maxHeartbeats 1000000 in
theorem sg_coder (l : Launch) (a v sz : Nat) : Met l gk_y_379 (Jvm.Cond.code gk_y_379 gk_N379.2.2 1 (some .byte) :: gk_tbl) { frames := 1, cells := 0, slots := 0, locals := 40 } (sg_Pc [.ref a] a v sz) (sg_Q 0 sz) 0 0 (fun q => sz ≤ q) := by
  refine Met.ofW (cc := gk_N379.2.2) (maxL := 1) (ret := (some .byte)) (by decide +kernel) rfl ?_
  intro p e s m args below meth c s₁ B hml hv
  obtain ⟨rfl, hsz, hX⟩ := hv
  have hx := B.exec; have hb := B.bytes; have hr := B.returns; have hlocks := B.notSynchronized
  have hts : ∀ w ∈ gk_tbl, w.before (List.toArray [.ref a]) s = true := fun w hw => atoms_spec (ws := Jvm.Cond.code gk_y_379 gk_N379.2.2 1 (some .byte) :: gk_tbl) B.pre w (List.mem_cons_of_mem _ hw)
  have hown : s.vm.findClass "java/lang/String" = some m.cls := findClass_of_methodNamed B.named
  subst hsz
  have hS : va_S (fun q => s.heap.size ≤ q) s.heap s.heap [] := va_S.rf
  have hA : ∀ q : Nat, s.heap.size ≤ q → s.heap.size ≤ q := fun _ h => h
  have hX0 := hX
  obtain ⟨hO, hC, hV, hT, hZ, hF⟩ := hX
  have hl := lv_entry [.ref a] (n := 1) (Nat.le_of_ble_eq_true rfl)
  rw [lg_entry_eq]
  generalize (lg_sl [.ref a] ++ List.replicate (1 - (lg_sl [.ref a]).length) Slot.unset).toArray = ls at hl ⊢
  have hl : lv_has ls 1 [(0, .ref a)] := hl
  refine va_gets hx hb hZ hS hown (hts _ (rk_mt 267 (by decide +kernel) rfl)) (fun _ h => h) sg_d379_0 ?_
  refine lv_if_eq (tgt := 13) hx hb sg_d379_3 rfl (fun h => absurd h (by decide)) (fun _ => ?_)
  refine lv_aload_n hx hb sg_d379_6 rfl (lv_at hl 0 rfl) ?_
  refine vk_getf hx hb hC hS hown (hts _ (rk_mt 2477 (by decide +kernel) rfl)) (fun _ h => h) sg_d379_7 ?_
  refine lv_goto (tgt := 14) hx hb sg_d379_10 rfl ?_
  exact W.zret (ty := .byte) (v := 0) hx hb hr (by decide) (fun t ht hW => ⟨⟨_, (), rfl, rfl, trivial⟩, hS.F ht⟩) hS.2.2 sg_d379_14
set_option maxHeartbeats 1000000 in
theorem sg_isLatin1 (l : Launch) (a v sz : Nat) : Met l gk_y_380 (Jvm.Cond.code gk_y_380 gk_N380.2.2 1 (some .boolean) :: gk_tbl) { frames := 1, cells := 0, slots := 0, locals := 40 } (sg_Pc [.ref a] a v sz) (sg_Q 1 sz) 0 0 (fun q => sz ≤ q) := by
  refine Met.ofW (cc := gk_N380.2.2) (maxL := 1) (ret := (some .boolean)) (by decide +kernel) rfl ?_
  intro p e s m args below meth c s₁ B hml hv
  obtain ⟨rfl, hsz, hX⟩ := hv
  have hx := B.exec; have hb := B.bytes; have hr := B.returns; have hlocks := B.notSynchronized
  have hts : ∀ w ∈ gk_tbl, w.before (List.toArray [.ref a]) s = true := fun w hw => atoms_spec (ws := Jvm.Cond.code gk_y_380 gk_N380.2.2 1 (some .boolean) :: gk_tbl) B.pre w (List.mem_cons_of_mem _ hw)
  have hown : s.vm.findClass "java/lang/String" = some m.cls := findClass_of_methodNamed B.named
  subst hsz
  have hS : va_S (fun q => s.heap.size ≤ q) s.heap s.heap [] := va_S.rf
  have hA : ∀ q : Nat, s.heap.size ≤ q → s.heap.size ≤ q := fun _ h => h
  have hX0 := hX
  obtain ⟨hO, hC, hV, hT, hZ, hF⟩ := hX
  have hl := lv_entry [.ref a] (n := 1) (Nat.le_of_ble_eq_true rfl)
  rw [lg_entry_eq]
  generalize (lg_sl [.ref a] ++ List.replicate (1 - (lg_sl [.ref a]).length) Slot.unset).toArray = ls at hl ⊢
  have hl : lv_has ls 1 [(0, .ref a)] := hl
  refine va_gets hx hb hZ hS hown (hts _ (rk_mt 267 (by decide +kernel) rfl)) (fun _ h => h) sg_d380_0 ?_
  refine lv_if_eq (tgt := 17) hx hb sg_d380_3 rfl (fun h => absurd h (by decide)) (fun _ => ?_)
  refine lv_aload_n hx hb sg_d380_6 rfl (lv_at hl 0 rfl) ?_
  refine vk_getf hx hb hC hS hown (hts _ (rk_mt 2477 (by decide +kernel) rfl)) (fun _ h => h) sg_d380_7 ?_
  refine lv_if_ne (tgt := 17) hx hb sg_d380_10 rfl (fun h => absurd rfl h) (fun _ => ?_)
  refine lv_iconst (v := 1) hx hb sg_d380_13 rfl ?_
  refine lv_goto (tgt := 18) hx hb sg_d380_14 rfl ?_
  exact W.zret (ty := .boolean) (v := 1) hx hb hr (by decide) (fun t ht hW => ⟨⟨_, (), rfl, rfl, trivial⟩, hS.F ht⟩) hS.2.2 sg_d380_18
set_option maxHeartbeats 1000000 in
theorem sg_length (l : Launch) (a v sz : Nat) : Met l gk_y_377 (Jvm.Cond.code gk_y_377 gk_N377.2.2 1 (some .int) :: gk_tbl) { frames := 2, cells := 0, slots := 0, locals := 80 } (sg_Pc [.ref a] a v sz) (sg_Q (Int32.ofNat sg_n) sz) 0 0 (fun q => sz ≤ q) := by
  refine Met.ofW (cc := gk_N377.2.2) (maxL := 1) (ret := (some .int)) (by decide +kernel) rfl ?_
  intro p e s m args below meth c s₁ B hml hv
  obtain ⟨rfl, hsz, hX⟩ := hv
  have hx := B.exec; have hb := B.bytes; have hr := B.returns; have hlocks := B.notSynchronized
  have hts : ∀ w ∈ gk_tbl, w.before (List.toArray [.ref a]) s = true := fun w hw => atoms_spec (ws := Jvm.Cond.code gk_y_377 gk_N377.2.2 1 (some .int) :: gk_tbl) B.pre w (List.mem_cons_of_mem _ hw)
  have hown : s.vm.findClass "java/lang/String" = some m.cls := findClass_of_methodNamed B.named
  subst hsz
  have hS : va_S (fun q => s.heap.size ≤ q) s.heap s.heap [] := va_S.rf
  have hA : ∀ q : Nat, s.heap.size ≤ q → s.heap.size ≤ q := fun _ h => h
  have hX0 := hX
  obtain ⟨hO, hC, hV, hT, hZ, hF⟩ := hX
  have hl := lv_entry [.ref a] (n := 1) (Nat.le_of_ble_eq_true rfl)
  rw [lg_entry_eq]
  generalize (lg_sl [.ref a] ++ List.replicate (1 - (lg_sl [.ref a]).length) Slot.unset).toArray = ls at hl ⊢
  have hl : lv_has ls 1 [(0, .ref a)] := hl
  refine lv_aload_n hx hb sg_d377_0 rfl (lv_at hl 0 rfl) ?_
  refine vk_getf hx hb hV hS hown (hts _ (rk_mt 2476 (by decide +kernel) rfl)) (fun _ h => h) sg_d377_1 ?_
  refine va_tlen hx hb hT hS rfl sg_d377_4 ?_
  refine lv_aload_n hx hb sg_d377_5 rfl (lv_at hl 0 rfl) ?_
  refine va_calli (va_runV (C := "java/lang/String") (As := []) (rest := [.int (Int32.ofNat sg_n)]) ⟨hx, hb, hml, hown, hts⟩ (sg_coder l a v s.heap.size) ⟨callB_of 0 hts (rk_good gk_good (rk_mt 266 (by decide +kernel) rfl)) rfl rfl rfl (hts _ (rk_mt 223 (by decide +kernel) rfl)) (hts _ (rk_mt 263 (by decide +kernel) rfl)) ⟨(by decide +kernel), (by decide +kernel), (by decide +kernel)⟩ ⟨Nat.le_of_ble_eq_true rfl, Nat.le_of_ble_eq_true rfl⟩, hts _ (rk_mt 264 (by decide +kernel) rfl), hts _ (rk_mt 265 (by decide +kernel) rfl)⟩ ⟨sg_blind _ _ _ _, (by obtain ⟨cell, h1, h2, h3, -⟩ := hO.kept hS.2.1; exact ⟨cell, h1, h2, h3⟩), fun U hU hW => ⟨rfl, by rw [hU], sg_pre hX0 hS hA hU hW⟩⟩ rfl rfl hl.1 rfl (lv_room (Nat.le_of_ble_eq_true rfl)) sg_d377_6 ⟨Nat.zero_le _, Nat.zero_le _⟩) hS (fun q h1 h2 => absurd h2 (by omega)) (fun q h => Nat.le_trans hS.1 h) (fun r0 u t H1 locs1 ht hvm hw hB hz1 hk1 hS => ?_)
  subst hw
  refine lv_ishr hx hb sg_d377_9 ?_
  rw [show (Int32.ofNat sg_n >>> ((0 : Int32) &&& 31)) = Int32.ofNat sg_n from by decide +kernel]
  exact W.iret (v := Int32.ofNat sg_n) hx hb hr (fun t ht hW => ⟨⟨_, (), rfl, rfl, trivial⟩, hS.F ht⟩) hS.2.2 sg_d377_10
set_option maxHeartbeats 1000000 in
theorem sg_pcheck (l : Launch) (a v sz : Nat) (i n : Int32) (x : Value) (h0 : ¬ i < 0) (h1 : i < n) (hx0 : x.category = 1) : Met l gk_y_389 (Jvm.Cond.code gk_y_389 gk_N389.2.2 3 (some .int) :: gk_tbl) { frames := 1, cells := 0, slots := 0, locals := 40 } (sg_Pc [.int i, .int n, x] a v sz) (sg_Q i sz) 0 0 (fun q => sz ≤ q) := by
  refine Met.ofW (cc := gk_N389.2.2) (maxL := 3) (ret := (some .int)) (by decide +kernel) rfl ?_
  intro p e s m args below meth c s₁ B hml hv
  obtain ⟨rfl, hsz, hX⟩ := hv
  have hx := B.exec; have hb := B.bytes; have hr := B.returns; have hlocks := B.notSynchronized
  have hts : ∀ w ∈ gk_tbl, w.before (List.toArray [.int i, .int n, x]) s = true := fun w hw => atoms_spec (ws := Jvm.Cond.code gk_y_389 gk_N389.2.2 3 (some .int) :: gk_tbl) B.pre w (List.mem_cons_of_mem _ hw)
  have hown : s.vm.findClass "jdk/internal/util/Preconditions" = some m.cls := findClass_of_methodNamed B.named
  subst hsz
  have hS : va_S (fun q => s.heap.size ≤ q) s.heap s.heap [] := va_S.rf
  have hA : ∀ q : Nat, s.heap.size ≤ q → s.heap.size ≤ q := fun _ h => h
  have hX0 := hX
  obtain ⟨hO, hC, hV, hT, hZ, hF⟩ := hX
  have hl := lv_entry [.int i, .int n, x] (n := 3) (by rw [rk_lgsl]; show (1 : Nat) + (1 + (x.category + 0)) ≤ 3; rw [hx0]; decide)
  rw [lg_entry_eq]
  generalize (lg_sl [.int i, .int n, x] ++ List.replicate (3 - (lg_sl [.int i, .int n, x]).length) Slot.unset).toArray = ls at hl ⊢
  have hl : lv_has ls 3 [(0, .int i), (1, .int n), (2, x)] := hl
  refine lv_iload_n hx hb sg_d389_0 rfl (lv_at hl 0 rfl) ?_
  refine lv_if_lt (tgt := 9) hx hb sg_d389_1 rfl (fun h => absurd h h0) (fun _ => ?_)
  refine lv_iload_n hx hb sg_d389_4 rfl (lv_at hl 0 rfl) ?_
  refine lv_iload_n hx hb sg_d389_5 rfl (lv_at hl 1 rfl) ?_
  refine lv_icmp_lt (tgt := 16) hx hb sg_d389_6 rfl (fun _ => ?_) (fun h => absurd h1 h)
  refine lv_iload_n hx hb sg_d389_16 rfl (lv_at hl 0 rfl) ?_
  exact W.iret (v := i) hx hb hr (fun t ht hW => ⟨⟨_, (), rfl, rfl, trivial⟩, hS.F ht⟩) hS.2.2 sg_d389_17
set_option maxHeartbeats 1000000 in
theorem sg_check (l : Launch) (a v sz : Nat) (i n : Int32) (h0 : ¬ i < 0) (h1 : i < n) : Met l gk_y_381 (Jvm.Cond.code gk_y_381 gk_N381.2.2 2 none :: gk_tbl) { frames := 2, cells := 0, slots := 0, locals := 80 } (sg_Pc [.int i, .int n] a v sz) (sg_Qv sz) 0 0 (fun q => sz ≤ q) := by
  refine Met.ofW (cc := gk_N381.2.2) (maxL := 2) (ret := none) (by decide +kernel) rfl ?_
  intro p e s m args below meth c s₁ B hml hv
  obtain ⟨rfl, hsz, hX⟩ := hv
  have hx := B.exec; have hb := B.bytes; have hr := B.returns; have hlocks := B.notSynchronized
  have hts : ∀ w ∈ gk_tbl, w.before (List.toArray [.int i, .int n]) s = true := fun w hw => atoms_spec (ws := Jvm.Cond.code gk_y_381 gk_N381.2.2 2 none :: gk_tbl) B.pre w (List.mem_cons_of_mem _ hw)
  have hown : s.vm.findClass "java/lang/String" = some m.cls := findClass_of_methodNamed B.named
  subst hsz
  have hS : va_S (fun q => s.heap.size ≤ q) s.heap s.heap [] := va_S.rf
  have hA : ∀ q : Nat, s.heap.size ≤ q → s.heap.size ≤ q := fun _ h => h
  have hX0 := hX
  obtain ⟨hO, hC, hV, hT, hZ, hF⟩ := hX
  have hl := lv_entry [.int i, .int n] (n := 2) (Nat.le_of_ble_eq_true rfl)
  rw [lg_entry_eq]
  generalize (lg_sl [.int i, .int n] ++ List.replicate (2 - (lg_sl [.int i, .int n]).length) Slot.unset).toArray = ls at hl ⊢
  have hl : lv_has ls 2 [(0, .int i), (1, .int n)] := hl
  refine lv_iload_n hx hb sg_d381_0 rfl (lv_at hl 0 rfl) ?_
  refine lv_iload_n hx hb sg_d381_1 rfl (lv_at hl 1 rfl) ?_
  obtain ⟨x, hxc, hFx⟩ : ∃ x : Value, x.category = 1 ∧ va_Z "jdk/internal/util/Preconditions" "SIOOBE_FORMATTER" "Ljava/util/function/BiFunction;" x (fun q => s.heap.size ≤ q) s s.heap := by
    rcases hF with h | ⟨t, h⟩
    · exact ⟨_, rfl, h⟩
    · exact ⟨_, rfl, h⟩
  refine va_gets hx hb hFx hS hown (hts _ (rk_mt 283 (by decide +kernel) rfl)) (fun _ h => h) sg_d381_2 ?_
  refine va_calli (va_runS (As := [.int i, .int n, x]) (rest := []) ⟨hx, hb, hml, hown, hts⟩ (sg_pcheck l a v s.heap.size i n x h0 h1 hxc) ⟨callB_of 3 hts (rk_good gk_good (rk_mt 287 (by decide +kernel) rfl)) rfl rfl rfl (hts _ (rk_mt 225 (by decide +kernel) rfl)) (hts _ (rk_mt 285 (by decide +kernel) rfl)) ⟨(by decide +kernel), (by decide +kernel), (by decide +kernel)⟩ ⟨Nat.le_of_ble_eq_true rfl, Nat.le_of_ble_eq_true rfl⟩, hts _ (rk_mt 286 (by decide +kernel) rfl)⟩ ⟨sg_blind _ _ _ _, fun U hU hW => ⟨rfl, by rw [hU], sg_pre hX0 hS hA hU hW⟩⟩ rfl rfl hl.1 rfl (lv_room (Nat.le_of_ble_eq_true rfl)) sg_d381_5 ⟨Nat.zero_le _, Nat.zero_le _⟩) hS (fun q h1 h2 => absurd h2 (by omega)) (fun q h => Nat.le_trans hS.1 h) (fun r0 u t H1 locs1 ht hvm hw hB hz1 hk1 hS => ?_)
  subst hw
  refine lv_pop hx hb sg_d381_8 rfl ?_
  exact W.vret hx hb hr (fun t ht hW => ⟨⟨(), rfl, trivial, trivial⟩, hS.F ht⟩) hS.2.2 sg_d381_9
set_option maxHeartbeats 1000000 in
theorem sg_lchar (l : Launch) (a v sz : Nat) (k : Nat) (hk : k < sg_n) : Met l gk_y_382 (Jvm.Cond.code gk_y_382 gk_N382.2.2 2 (some .char) :: gk_tbl) { frames := 3, cells := 0, slots := 0, locals := 120 } (sg_Pc [.ref v, .int (nI k)] a v sz) (sg_Q (sg_b.getD k 0) sz) 0 0 (fun q => sz ≤ q) := by
  refine Met.ofW (cc := gk_N382.2.2) (maxL := 2) (ret := (some .char)) (by decide +kernel) rfl ?_
  intro p e s m args below meth c s₁ B hml hv
  obtain ⟨rfl, hsz, hX⟩ := hv
  have hx := B.exec; have hb := B.bytes; have hr := B.returns; have hlocks := B.notSynchronized
  have hts : ∀ w ∈ gk_tbl, w.before (List.toArray [.ref v, .int (nI k)]) s = true := fun w hw => atoms_spec (ws := Jvm.Cond.code gk_y_382 gk_N382.2.2 2 (some .char) :: gk_tbl) B.pre w (List.mem_cons_of_mem _ hw)
  have hown : s.vm.findClass "java/lang/StringLatin1" = some m.cls := findClass_of_methodNamed B.named
  subst hsz
  have hS : va_S (fun q => s.heap.size ≤ q) s.heap s.heap [] := va_S.rf
  have hA : ∀ q : Nat, s.heap.size ≤ q → s.heap.size ≤ q := fun _ h => h
  have hX0 := hX
  obtain ⟨hO, hC, hV, hT, hZ, hF⟩ := hX
  have hl := lv_entry [.ref v, .int (nI k)] (n := 2) (Nat.le_of_ble_eq_true rfl)
  rw [lg_entry_eq]
  generalize (lg_sl [.ref v, .int (nI k)] ++ List.replicate (2 - (lg_sl [.ref v, .int (nI k)]).length) Slot.unset).toArray = ls at hl ⊢
  have hl : lv_has ls 2 [(0, .ref v), (1, .int (nI k))] := hl
  refine lv_iload_n hx hb sg_d382_0 rfl (lv_at hl 1 rfl) ?_
  refine lv_aload_n hx hb sg_d382_1 rfl (lv_at hl 0 rfl) ?_
  refine va_tlen hx hb hT hS rfl sg_d382_2 ?_
  have hn : sg_n < 2 ^ 31 := by decide
  refine va_callv (va_runS (As := [.int (nI k), .int (nI sg_n)]) (rest := []) ⟨hx, hb, hml, hown, hts⟩ (sg_check l a v s.heap.size (nI k) (nI sg_n) (nI_pos (by omega)) (nI_lt hk hn)) ⟨callB_of 2 hts (rk_good gk_good (rk_mt 282 (by decide +kernel) rfl)) rfl rfl rfl (hts _ (rk_mt 223 (by decide +kernel) rfl)) (hts _ (rk_mt 280 (by decide +kernel) rfl)) ⟨(by decide +kernel), (by decide +kernel), (by decide +kernel)⟩ ⟨Nat.le_of_ble_eq_true rfl, Nat.le_of_ble_eq_true rfl⟩, hts _ (rk_mt 281 (by decide +kernel) rfl)⟩ ⟨sg_blind _ _ _ _, fun U hU hW => ⟨rfl, by rw [hU], sg_pre hX0 hS hA hU hW⟩⟩ rfl rfl hl.1 rfl (lv_room (Nat.le_of_ble_eq_true rfl)) sg_d382_3 ⟨Nat.zero_le _, Nat.zero_le _⟩) hS (fun q h1 h2 => absurd h2 (by omega)) (fun q h => Nat.le_trans hS.1 h) (fun u t H1 locs1 ht hvm hw hB hz1 hk1 hS => ?_)
  refine lv_aload_n hx hb sg_d382_6 rfl (lv_at hl 0 rfl) ?_
  refine lv_iload_n hx hb sg_d382_7 rfl (lv_at hl 1 rfl) ?_
  refine va_tb (v := .int (sg_b.getD k 0)) hx hb hT hS (nI_in hk hn) (by rw [nI_clamp (by omega)]) sg_d382_8 ?_
  refine lv_sipush (v := 255) hx hb sg_d382_9 (by decide) ?_
  have hall : (sg_b.getD k 0) &&& 255 = sg_b.getD k 0 ∧ ((sg_b.getD k 0).toUInt32 % 65536).toInt32 = sg_b.getD k 0 ∧ narrow .char (.int (sg_b.getD k 0)) = .int (sg_b.getD k 0) := by
    have h9 := List.all_eq_true.mp (show (List.range sg_n).all (fun k => decide ((sg_b.getD k 0) &&& 255 = sg_b.getD k 0 ∧ ((sg_b.getD k 0).toUInt32 % 65536).toInt32 = sg_b.getD k 0 ∧ narrow .char (.int (sg_b.getD k 0)) = .int (sg_b.getD k 0))) = true from by decide +kernel) k (List.mem_range.mpr hk)
    exact of_decide_eq_true h9
  refine lv_iand hx hb sg_d382_12 ?_
  rw [hall.1]
  refine lv_i2c hx hb sg_d382_13 hall.2.1 ?_
  exact W.zret (ty := .char) (v := sg_b.getD k 0) hx hb hr hall.2.2 (fun t ht hW => ⟨⟨_, (), rfl, rfl, trivial⟩, hS.F ht⟩) hS.2.2 sg_d382_14
set_option maxHeartbeats 1000000 in
theorem sg_charAt (l : Launch) (a v sz : Nat) (k : Nat) (hk : k < sg_n) : Met l gk_y_378 (Jvm.Cond.code gk_y_378 gk_N378.2.2 2 (some .char) :: gk_tbl) { frames := 4, cells := 0, slots := 0, locals := 160 } (sg_Pc [.ref a, .int (nI k)] a v sz) (sg_Q (sg_b.getD k 0) sz) 0 0 (fun q => sz ≤ q) := by
  refine Met.ofW (cc := gk_N378.2.2) (maxL := 2) (ret := (some .char)) (by decide +kernel) rfl ?_
  intro p e s m args below meth c s₁ B hml hv
  obtain ⟨rfl, hsz, hX⟩ := hv
  have hx := B.exec; have hb := B.bytes; have hr := B.returns; have hlocks := B.notSynchronized
  have hts : ∀ w ∈ gk_tbl, w.before (List.toArray [.ref a, .int (nI k)]) s = true := fun w hw => atoms_spec (ws := Jvm.Cond.code gk_y_378 gk_N378.2.2 2 (some .char) :: gk_tbl) B.pre w (List.mem_cons_of_mem _ hw)
  have hown : s.vm.findClass "java/lang/String" = some m.cls := findClass_of_methodNamed B.named
  subst hsz
  have hS : va_S (fun q => s.heap.size ≤ q) s.heap s.heap [] := va_S.rf
  have hA : ∀ q : Nat, s.heap.size ≤ q → s.heap.size ≤ q := fun _ h => h
  have hX0 := hX
  obtain ⟨hO, hC, hV, hT, hZ, hF⟩ := hX
  have hl := lv_entry [.ref a, .int (nI k)] (n := 2) (Nat.le_of_ble_eq_true rfl)
  rw [lg_entry_eq]
  generalize (lg_sl [.ref a, .int (nI k)] ++ List.replicate (2 - (lg_sl [.ref a, .int (nI k)]).length) Slot.unset).toArray = ls at hl ⊢
  have hl : lv_has ls 2 [(0, .ref a), (1, .int (nI k))] := hl
  refine lv_aload_n hx hb sg_d378_0 rfl (lv_at hl 0 rfl) ?_
  refine va_calli (va_runV (C := "java/lang/String") (As := []) (rest := []) ⟨hx, hb, hml, hown, hts⟩ (sg_isLatin1 l a v s.heap.size) ⟨callB_of 0 hts (rk_good gk_good (rk_mt 276 (by decide +kernel) rfl)) rfl rfl rfl (hts _ (rk_mt 223 (by decide +kernel) rfl)) (hts _ (rk_mt 273 (by decide +kernel) rfl)) ⟨(by decide +kernel), (by decide +kernel), (by decide +kernel)⟩ ⟨Nat.le_of_ble_eq_true rfl, Nat.le_of_ble_eq_true rfl⟩, hts _ (rk_mt 274 (by decide +kernel) rfl), hts _ (rk_mt 275 (by decide +kernel) rfl)⟩ ⟨sg_blind _ _ _ _, (by obtain ⟨cell, h1, h2, h3, -⟩ := hO.kept hS.2.1; exact ⟨cell, h1, h2, h3⟩), fun U hU hW => ⟨rfl, by rw [hU], sg_pre hX0 hS hA hU hW⟩⟩ rfl rfl hl.1 rfl (lv_room (Nat.le_of_ble_eq_true rfl)) sg_d378_1 ⟨Nat.zero_le _, Nat.zero_le _⟩) hS (fun q h1 h2 => absurd h2 (by omega)) (fun q h => Nat.le_trans hS.1 h) (fun r0 u t H1 locs1 ht hvm hw hB hz1 hk1 hS => ?_)
  subst hw
  refine lv_if_eq (tgt := 16) hx hb sg_d378_4 rfl (fun h => absurd h (by decide)) (fun _ => ?_)
  refine lv_aload_n hx hb sg_d378_7 rfl (lv_at hl 0 rfl) ?_
  refine vk_getf hx hb hV hS hown (hts _ (rk_mt 2476 (by decide +kernel) rfl)) (fun _ h => h) sg_d378_8 ?_
  refine lv_iload_n hx hb sg_d378_11 rfl (lv_at hl 1 rfl) ?_
  refine va_calli (va_runS (As := [.ref v, .int (nI k)]) (rest := []) ⟨hx, hb, hml, hown, hts⟩ (sg_lchar l a v H1.size k hk) ⟨callB_of 2 hts (rk_good gk_good (rk_mt 279 (by decide +kernel) rfl)) rfl rfl rfl (hts _ (rk_mt 224 (by decide +kernel) rfl)) (hts _ (rk_mt 277 (by decide +kernel) rfl)) ⟨(by decide +kernel), (by decide +kernel), (by decide +kernel)⟩ ⟨Nat.le_of_ble_eq_true rfl, Nat.le_of_ble_eq_true rfl⟩, hts _ (rk_mt 278 (by decide +kernel) rfl)⟩ ⟨sg_blind _ _ _ _, fun U hU hW => ⟨rfl, by rw [hU], sg_pre hX0 hS hA hU hW⟩⟩ rfl rfl hl.1 rfl (lv_room (Nat.le_of_ble_eq_true rfl)) sg_d378_12 ⟨Nat.zero_le _, Nat.zero_le _⟩) hS (fun q h1 h2 => absurd h2 (by omega)) (fun q h => Nat.le_trans hS.1 h) (fun r0 u t H1 locs1 ht hvm hw hB hz1 hk1 hS => ?_)
  subst hw
  have hn9 : narrow .char (.int (sg_b.getD k 0)) = .int (sg_b.getD k 0) := of_decide_eq_true (List.all_eq_true.mp (show (List.range sg_n).all (fun k => decide (narrow .char (.int (sg_b.getD k 0)) = .int (sg_b.getD k 0))) = true from by decide +kernel) k (List.mem_range.mpr hk))
  exact W.zret (ty := .char) (v := sg_b.getD k 0) hx hb hr hn9 (fun t ht hW => ⟨⟨_, (), rfl, rfl, trivial⟩, hS.F ht⟩) hS.2.2 sg_d378_15
end MH29_2
