section MH13_0
section GN5
variable {l : Launch} {D : va_G} {xt : tk_XT} {ro : Nat → Nat → Int → Prop} {ads tw : List Nat}
/-- GooseIceModel.rescue -/
def gn_K31 : tk_K := (298, [(2, 0, 0, 0), (0, 1, 1, 0)], ([((-2147483648), 2147483647)], []), [0], [], ([(some (0, 2, 1, 0), ([((-2147483648), 2147483647), ((-2147483648), 2147483647), (0, 7)], []), [0], [(0, (0, 0, 0, 2), (0, 3, 1, 0))])], [(0, 2), (1, 16), (1, 17)]))
def gn_H31 : List tk_Hd := [(16, [(0, (2, 0, 0, 0)), (1, (0, 1, 1, 0)), (2, (0, 2, 1, 0))], ([(0, 7), (0, 10), (1, 8), (0, 10)], [(1, 3, 0)]), [0, 1], [(0, (0, 0, 0, 0), (2, 1, 0, 0)), (1, (0, 0, 0, 1), (0, 3, 1, 0)), (1, (0, 0, 0, 0), (0, 4, 1, 0))], [(0, 0, (0, 0, 0, 0)), (1, 10, (0, 2, 1, 0)), (0, 0, (0, 0, 0, 0))])]
theorem gn_31 (hU : gm_U tw) (hxt : tk_xtok xt) : tk_KS l D gk_cl gk_tbl gk_xw xt gk_MN gk_P gm_TY ro (gm_X tw) ads tw 6 gn_K31 := tk_contract (hk := (tk_hkR [(48, [((0, 2), 0, 10, 0, [])])])) (tk_hkR_ok _) (gm_xs hU) hxt gk_rok [207, 208, 253, 254, 256, 258, 266] 20000 2 3 (Ks := [gn_K12, gn_K30]) (d := 3) (List.forall_mem_cons.mpr ⟨tk_KS_up (by decide) (gn_12 hU hxt), (List.forall_mem_cons.mpr ⟨tk_KS_up (by decide) (gn_30 hU hxt), (fun _ h => absurd h List.not_mem_nil)⟩)⟩) (Hs := gn_H31) (by decide +kernel) rfl
/-- GooseIceModel.breaks -/
def gn_K32 : tk_K := (282, [(2, 0, 0, 0), (0, 1, 1, 0)], ([(0, 9)], []), [0], [], ([(none, ([(0, 9)], []), [0], [])], [(1, 9), (1, 12), (1, 14), (1, 17), (1, 18)]))
def gn_H32 : List tk_Hd := [(26, [(0, (2, 0, 0, 0)), (1, (0, 1, 1, 0)), (2, (0, 2, 1, 0))], ([(0, 9), (0, 21)], []), [0, 1], [(0, (0, 0, 0, 0), (2, 1, 0, 0)), (1, (0, 1, 6, 12), (0, 0, 0, 1)), (1, (0, 1, 6, 9), (0, 0, 0, 0))], [(0, 1, (0, 0, 0, 0)), (1, 21, (0, 2, 1, 0)), (0, 0, (0, 0, 0, 0))]), (55, [(0, (2, 0, 0, 0)), (1, (0, 1, 1, 0)), (2, (0, 2, 1, 0))], ([(0, 9), (0, 8)], []), [0, 1], [(0, (0, 0, 0, 0), (2, 1, 0, 0)), (1, (0, 1, 6, 12), (0, 0, 0, 1)), (1, (0, 1, 6, 9), (0, 0, 0, 0))], [(0, 0, (0, 0, 0, 0)), (1, 8, (0, 2, 1, 0)), (0, 0, (0, 0, 0, 0))])]
theorem gn_32 (hU : gm_U tw) (hxt : tk_xtok xt) : tk_KS l D gk_cl gk_tbl gk_xw xt gk_MN gk_P gm_TY ro (gm_X tw) ads tw 3 gn_K32 := tk_contract (hk := tk_hk0) tk_hk0_ok (gm_xs hU) hxt gk_rok [253, 254, 265, 266, 283] 20000 2 3 (Ks := []) (d := 0) (fun _ h => absurd h List.not_mem_nil) (Hs := gn_H32) (by decide +kernel) rfl
end GN5
end MH13_0
section MH13_1
section GN6
variable {l : Launch} {D : va_G} {xt : tk_XT} {ro : Nat → Nat → Int → Prop} {ads tw : List Nat}
/-- GooseIceModel.melt -/
def gn_K33 : tk_K := (299, [(2, 0, 0, 0), (0, 1, 1, 0)], ([((-2147483648), 2147483647)], []), [0], [], ([(some (0, 2, 1, 0), ([((-2147483648), 2147483647), ((-2147483648), 2147483647), (0, 7)], []), [0], [(0, (0, 0, 0, 2), (0, 3, 1, 0))])], [(0, 2), (1, 9), (1, 12), (1, 14), (1, 17), (1, 18)]))
def gn_H33 : List tk_Hd := []
theorem gn_33 (hU : gm_U tw) (hxt : tk_xtok xt) : tk_KS l D gk_cl gk_tbl gk_xw xt gk_MN gk_P gm_TY ro (gm_X tw) ads tw 7 gn_K33 := tk_contract (hk := tk_hk0) tk_hk0_ok (gm_xs hU) hxt gk_rok [207, 208, 253, 254, 256, 257, 263, 265, 266, 267, 283] 20000 3 0 (Ks := [gn_K14, gn_K32, gn_K12, gn_K30]) (d := 3) (List.forall_mem_cons.mpr ⟨tk_KS_up (by decide) (gn_14 hU hxt), (List.forall_mem_cons.mpr ⟨tk_KS_up (by decide) (gn_32 hU hxt), (List.forall_mem_cons.mpr ⟨tk_KS_up (by decide) (gn_12 hU hxt), (List.forall_mem_cons.mpr ⟨tk_KS_up (by decide) (gn_30 hU hxt), (fun _ h => absurd h List.not_mem_nil)⟩)⟩)⟩)⟩) (Hs := gn_H33) (by decide +kernel) rfl
end GN6
end MH13_1
section MH13_2
section GN7
variable {l : Launch} {D : va_G} {xt : tk_XT} {ro : Nat → Nat → Int → Prop} {ads tw : List Nat}
/-- GooseIceModel.weigh -/
def gn_K34 : tk_K := (300, [(2, 0, 0, 0), (0, 1, 1, 0), (0, 2, 1, 0)], ([((-2147483648), 2147483647), ((-2147483648), 2147483647)], []), [0], [], ([(some (0, 0, 0, 0), ([((-2147483648), 2147483647), ((-2147483648), 2147483647)], []), [0], [(0, (0, 0, 0, 2), (0, 0, 0, 1))]), (some (0, 0, 0, 1), ([(0, 7), (1, 99)], []), [0], [(0, (0, 0, 0, 2), (0, 0, 0, 0))])], [(0, 2), (1, 15)]))
def gn_H34 : List tk_Hd := []
theorem gn_34 (hU : gm_U tw) (hxt : tk_xtok xt) : tk_KS l D gk_cl gk_tbl gk_xw xt gk_MN gk_P gm_TY ro (gm_X tw) ads tw 2 gn_K34 := tk_contract (hk := tk_hk0) tk_hk0_ok (gm_xs hU) hxt gk_rok [206, 218, 254, 258] 20000 1 0 (Ks := []) (d := 0) (fun _ h => absurd h List.not_mem_nil) (Hs := gn_H34) (by decide +kernel) rfl
/-- GooseIceModel.marginOf -/
def gn_K35 : tk_K := (302, [(2, 0, 0, 0), (0, 1, 1, 0), (0, 2, 1, 0)], ([(0, 7), (0, 9)], []), [0], [], ([(some (0, 3, 1, 0), ([(0, 7), (0, 9), ((-2147483648), 2147483647)], []), [0], [])], []))
def gn_H35 : List tk_Hd := []
theorem gn_35 (hU : gm_U tw) (hxt : tk_xtok xt) : tk_KS l D gk_cl gk_tbl gk_xw xt gk_MN gk_P gm_TY ro (gm_X tw) ads tw 6 gn_K35 := tk_contract (hk := tk_hk0) tk_hk0_ok (gm_xs hU) hxt gk_rok [253, 254, 256, 260, 263, 264, 265, 266] 20000 2 0 (Ks := [gn_K16, gn_K17, gn_K15]) (d := 3) (List.forall_mem_cons.mpr ⟨tk_KS_up (by decide) (gn_16 hU hxt), (List.forall_mem_cons.mpr ⟨tk_KS_up (by decide) (gn_17 hU hxt), (List.forall_mem_cons.mpr ⟨tk_KS_up (by decide) (gn_15 hU hxt), (fun _ h => absurd h List.not_mem_nil)⟩)⟩)⟩) (Hs := gn_H35) (by decide +kernel) rfl
/-- GooseIceModel.bears -/
def gn_K36 : tk_K := (308, [(2, 0, 0, 0), (0, 1, 1, 0), (0, 2, 1, 0)], ([((-2147483648), 2147483647), ((-2147483648), 2147483647)], []), [0], [], ([(some (0, 3, 1, 0), ([((-2147483648), 2147483647), ((-2147483648), 2147483647), ((-1), 1), (0, 1)], []), [0], [(0, (0, 0, 0, 2), (0, 4, 1, 0))])], [(0, 2)]))
def gn_H36 : List tk_Hd := []
theorem gn_36 (hU : gm_U tw) (hxt : tk_xtok xt) : tk_KS l D gk_cl gk_tbl gk_xw xt gk_MN gk_P gm_TY ro (gm_X tw) ads tw 10 gn_K36 := tk_contract (hk := tk_hk0) tk_hk0_ok (gm_xs hU) hxt gk_rok [207, 208, 253, 256, 258, 259, 263, 303] 20000 3 0 (Ks := [gn_K14, gn_K35]) (d := 6) (List.forall_mem_cons.mpr ⟨tk_KS_up (by decide) (gn_14 hU hxt), (List.forall_mem_cons.mpr ⟨tk_KS_up (by decide) (gn_35 hU hxt), (fun _ h => absurd h List.not_mem_nil)⟩)⟩) (Hs := gn_H36) (by decide +kernel) rfl
/-- GooseIceModel.margin -/
def gn_K37 : tk_K := (309, [(2, 0, 0, 0), (0, 1, 1, 0), (0, 2, 1, 0)], ([((-2147483648), 2147483647), ((-2147483648), 2147483647)], []), [0], [], ([(some (0, 3, 1, 0), ([((-2147483648), 2147483647), ((-2147483648), 2147483647), ((-2147483648), 2147483647), (0, 1)], []), [0], [(0, (0, 0, 0, 2), (0, 4, 1, 0))])], [(0, 2)]))
def gn_H37 : List tk_Hd := []
theorem gn_37 (hU : gm_U tw) (hxt : tk_xtok xt) : tk_KS l D gk_cl gk_tbl gk_xw xt gk_MN gk_P gm_TY ro (gm_X tw) ads tw 9 gn_K37 := tk_contract (hk := tk_hk0) tk_hk0_ok (gm_xs hU) hxt gk_rok [207, 208, 258, 259] 20000 2 0 (Ks := [gn_K14, gn_K35]) (d := 6) (List.forall_mem_cons.mpr ⟨tk_KS_up (by decide) (gn_14 hU hxt), (List.forall_mem_cons.mpr ⟨tk_KS_up (by decide) (gn_35 hU hxt), (fun _ h => absurd h List.not_mem_nil)⟩)⟩) (Hs := gn_H37) (by decide +kernel) rfl
/-- GooseIceModel.heaviest -/
def gn_K38 : tk_K := (322, [(2, 0, 0, 0), (0, 1, 1, 0)], ([((-2147483648), 2147483647)], []), [0], [], ([(some (0, 2, 1, 0), ([((-2147483648), 2147483647), ((-1), 999999), (0, 6)], []), [0], [(0, (0, 0, 0, 2), (0, 3, 1, 0))])], [(0, 2)]))
def gn_H38 : List tk_Hd := [(20, [(0, (2, 0, 0, 0)), (1, (0, 1, 1, 0)), (2, (0, 2, 1, 0)), (3, (0, 3, 1, 0))], ([(0, 7), (0, 1000000), (0, 20), (1, 8)], []), [0, 1], [(0, (0, 0, 0, 0), (2, 1, 0, 0)), (1, (0, 0, 0, 1), (0, 4, 1, 0))], [(0, 0, (0, 0, 0, 0)), (1, 20, (0, 3, 1, 0)), (0, 0, (0, 0, 0, 0))])]
theorem gn_38 (hU : gm_U tw) (hxt : tk_xtok xt) : tk_KS l D gk_cl gk_tbl gk_xw xt gk_MN gk_P gm_TY ro (gm_X tw) ads tw 10 gn_K38 := tk_contract (hk := tk_hk0) tk_hk0_ok (gm_xs hU) hxt gk_rok [207, 208, 253, 254, 256, 257, 258, 264, 267, 268] 20000 3 3 (Ks := [gn_K14, gn_K35]) (d := 6) (List.forall_mem_cons.mpr ⟨tk_KS_up (by decide) (gn_14 hU hxt), (List.forall_mem_cons.mpr ⟨tk_KS_up (by decide) (gn_35 hU hxt), (fun _ h => absurd h List.not_mem_nil)⟩)⟩) (Hs := gn_H38) (by decide +kernel) rfl
/-- GooseIceModel.weakest -/
def gn_K39 : tk_K := (323, [(2, 0, 0, 0)], ([], []), [0], [], ([(some (0, 1, 1, 0), ([((-1), 9), (0, 6)], []), [0], [(0, (0, 0, 0, 2), (0, 2, 1, 0))])], [(0, 2)]))
def gn_H39 : List tk_Hd := [(4, [(0, (2, 0, 0, 0)), (1, (0, 1, 1, 0)), (2, (0, 2, 1, 0))], ([((-1), 9), (0, 10)], []), [0], [], [(0, 0, (0, 0, 0, 0)), (1, 10, (0, 2, 1, 0)), (0, 0, (0, 0, 0, 0))])]
theorem gn_39 (hU : gm_U tw) (hxt : tk_xtok xt) : tk_KS l D gk_cl gk_tbl gk_xw xt gk_MN gk_P gm_TY ro (gm_X tw) ads tw 9 gn_K39 := tk_contract (hk := tk_hk0) tk_hk0_ok (gm_xs hU) hxt gk_rok [207, 208, 209, 253, 256, 257] 20000 3 3 (Ks := [gn_K14, gn_K18]) (d := 5) (List.forall_mem_cons.mpr ⟨tk_KS_up (by decide) (gn_14 hU hxt), (List.forall_mem_cons.mpr ⟨tk_KS_up (by decide) (gn_18 hU hxt), (fun _ h => absurd h List.not_mem_nil)⟩)⟩) (Hs := gn_H39) (by decide +kernel) rfl
/-- GooseIceModel.tooHeavy -/
def gn_K40 : tk_K := (324, [(2, 0, 0, 0), (0, 1, 1, 0)], ([((-2147483648), 2147483647)], []), [0], [], ([(some (0, 2, 1, 0), ([((-2147483648), 2147483647), ((-1), 255), (0, 1)], []), [0], [(0, (0, 0, 0, 2), (0, 3, 1, 0))])], [(0, 2)]))
def gn_H40 : List tk_Hd := [(19, [(0, (2, 0, 0, 0)), (1, (0, 1, 1, 0)), (2, (0, 2, 1, 0)), (3, (0, 3, 1, 0))], ([(0, 9), (0, 255), (0, 8)], []), [0], [], [(0, 0, (0, 0, 0, 0)), (1, 8, (0, 3, 1, 0)), (0, 0, (0, 0, 0, 0))])]
theorem gn_40 (hU : gm_U tw) (hxt : tk_xtok xt) : tk_KS l D gk_cl gk_tbl gk_xw xt gk_MN gk_P gm_TY ro (gm_X tw) ads tw 10 gn_K40 := tk_contract (hk := tk_hk0) tk_hk0_ok (gm_xs hU) hxt gk_rok [207, 208, 253, 254, 256, 263, 266, 303] 20000 3 3 (Ks := [gn_K14, gn_K35]) (d := 6) (List.forall_mem_cons.mpr ⟨tk_KS_up (by decide) (gn_14 hU hxt), (List.forall_mem_cons.mpr ⟨tk_KS_up (by decide) (gn_35 hU hxt), (fun _ h => absurd h List.not_mem_nil)⟩)⟩) (Hs := gn_H40) (by decide +kernel) rfl
/-- GooseIceModel.queueAt -/
def gn_K41 : tk_K := (335, [(2, 0, 0, 0), (0, 1, 1, 0), (0, 2, 1, 0)], ([((-2147483648), 2147483647), ((-2147483648), 2147483647)], []), [0], [], ([(some (0, 3, 1, 0), ([((-2147483648), 2147483647), ((-2147483648), 2147483647), ((-2147483648), 2147483647), (0, 6)], []), [0], [(0, (0, 0, 0, 2), (0, 4, 1, 0))])], [(0, 2)]))
def gn_H41 : List tk_Hd := []
theorem gn_41 (hU : gm_U tw) (hxt : tk_xtok xt) : tk_KS l D gk_cl gk_tbl gk_xw xt gk_MN gk_P gm_TY ro (gm_X tw) ads tw 2 gn_K41 := tk_contract (hk := tk_hk0) tk_hk0_ok (gm_xs hU) hxt gk_rok [207, 208] 20000 1 0 (Ks := []) (d := 0) (fun _ h => absurd h List.not_mem_nil) (Hs := gn_H41) (by decide +kernel) rfl
/-- GooseIceModel.isGroup -/
def gn_K42 : tk_K := (338, [(2, 0, 0, 0), (0, 1, 1, 0)], ([((-2147483648), 2147483647)], []), [0], [], ([(some (0, 0, 0, 0), ([((-2147483648), 2147483647)], []), [0], []), (some (0, 0, 0, 1), ([(1, 255)], []), [0], [])], []))
def gn_H42 : List tk_Hd := []
theorem gn_42 (hU : gm_U tw) (hxt : tk_xtok xt) : tk_KS l D gk_cl gk_tbl gk_xw xt gk_MN gk_P gm_TY ro (gm_X tw) ads tw 2 gn_K42 := tk_contract (hk := (tk_hkR [(10, [((1, 0), 0, 8, 0, [])])])) (tk_hkR_ok _) (gm_xs hU) hxt gk_rok [218] 20000 1 0 (Ks := []) (d := 0) (fun _ h => absurd h List.not_mem_nil) (Hs := gn_H42) (by decide +kernel) rfl
/-- GooseIceModel.weightOfAll -/
def gn_K43 : tk_K := (337, [(2, 0, 0, 0), (0, 1, 1, 0)], ([((-1), 255)], []), [0], [], ([(some (0, 2, 1, 0), ([((-1), 255), ((-2147483648), 2147483647)], []), [0], [])], []))
def gn_H43 : List tk_Hd := [(4, [(0, (2, 0, 0, 0)), (1, (0, 1, 1, 0)), (2, (0, 2, 1, 0)), (3, (0, 3, 1, 0))], ([((-1), 255), ((-2147483648), 2147483647), (0, 8)], []), [0], [], [(0, 0, (0, 0, 0, 0)), (1, 8, (0, 3, 1, 0)), (0, 0, (0, 0, 0, 0))])]
theorem gn_43 (hU : gm_U tw) (hxt : tk_xtok xt) : tk_KS l D gk_cl gk_tbl gk_xw xt gk_MN gk_P gm_TY ro (gm_X tw) ads tw 3 gn_K43 := tk_contract (hk := tk_hk0) tk_hk0_ok (gm_xs hU) hxt gk_rok [254, 260, 264] 20000 2 3 (Ks := []) (d := 0) (fun _ h => absurd h List.not_mem_nil) (Hs := gn_H43) (by decide +kernel) rfl
/-- GooseIceModel.halfOf -/
def gn_K44 : tk_K := (340, [(2, 0, 0, 0), (0, 1, 1, 0)], ([(1, 255)], []), [0], [], ([(some (0, 2, 1, 0), ([(1, 255), ((-1), 255)], []), [0], [])], []))
def gn_H44 : List tk_Hd := [(4, [(0, (2, 0, 0, 0)), (1, (0, 1, 1, 0)), (2, (0, 2, 1, 0)), (3, (0, 3, 1, 0))], ([(1, 255), ((-1), 255), (1, 256)], []), [0], [], [(0, 0, (0, 0, 0, 0)), (1, 256, (0, 3, 1, 0)), (0, 0, (0, 0, 0, 0))])]
theorem gn_44 (hU : gm_U tw) (hxt : tk_xtok xt) : tk_KS l D gk_cl gk_tbl gk_xw xt gk_MN gk_P gm_TY ro (gm_X tw) ads tw 5 gn_K44 := tk_contract (hk := tk_hk0) tk_hk0_ok (gm_xs hU) hxt gk_rok [339] 20000 1 3 (Ks := [gn_K43]) (d := 3) (List.forall_mem_cons.mpr ⟨tk_KS_up (by decide) (gn_43 hU hxt), (fun _ h => absurd h List.not_mem_nil)⟩) (Hs := gn_H44) (by decide +kernel) rfl
/-- GooseIceModel.halves -/
def gn_K45 : tk_K := (341, [(2, 0, 0, 0), (0, 1, 1, 0)], ([((-2147483648), 2147483647)], []), [0], [], ([(some (0, 2, 1, 0), ([((-2147483648), 2147483647), ((-2147483648), 2147483647), (0, 1)], []), [0], [(0, (0, 0, 0, 2), (0, 3, 1, 0))])], [(0, 2)]))
def gn_H45 : List tk_Hd := []
theorem gn_45 (hU : gm_U tw) (hxt : tk_xtok xt) : tk_KS l D gk_cl gk_tbl gk_xw xt gk_MN gk_P gm_TY ro (gm_X tw) ads tw 7 gn_K45 := tk_contract (hk := tk_hk0) tk_hk0_ok (gm_xs hU) hxt gk_rok [207, 208, 339] 20000 1 0 (Ks := [gn_K42, gn_K44, gn_K43]) (d := 5) (List.forall_mem_cons.mpr ⟨tk_KS_up (by decide) (gn_42 hU hxt), (List.forall_mem_cons.mpr ⟨tk_KS_up (by decide) (gn_44 hU hxt), (List.forall_mem_cons.mpr ⟨tk_KS_up (by decide) (gn_43 hU hxt), (fun _ h => absurd h List.not_mem_nil)⟩)⟩)⟩) (Hs := gn_H45) (by decide +kernel) rfl
end GN7
end MH13_2
section MH13_3
section GN8
variable {l : Launch} {D : va_G} {xt : tk_XT} {ro : Nat → Nat → Int → Prop} {ads tw : List Nat}
/-- GooseIceModel.half -/
def gn_K46 : tk_K := (342, [(2, 0, 0, 0), (0, 1, 1, 0)], ([((-2147483648), 2147483647)], []), [0], [], ([(some (0, 2, 1, 0), ([((-2147483648), 2147483647), ((-1), 255), (0, 1)], []), [0], [(0, (0, 0, 0, 2), (0, 3, 1, 0))])], [(0, 2)]))
def gn_H46 : List tk_Hd := []
theorem gn_46 (hU : gm_U tw) (hxt : tk_xtok xt) : tk_KS l D gk_cl gk_tbl gk_xw xt gk_MN gk_P gm_TY ro (gm_X tw) ads tw 7 gn_K46 := tk_contract (hk := tk_hk0) tk_hk0_ok (gm_xs hU) hxt gk_rok [207, 208, 339] 20000 1 0 (Ks := [gn_K42, gn_K43, gn_K44]) (d := 5) (List.forall_mem_cons.mpr ⟨tk_KS_up (by decide) (gn_42 hU hxt), (List.forall_mem_cons.mpr ⟨tk_KS_up (by decide) (gn_43 hU hxt), (List.forall_mem_cons.mpr ⟨tk_KS_up (by decide) (gn_44 hU hxt), (fun _ h => absurd h List.not_mem_nil)⟩)⟩)⟩) (Hs := gn_H46) (by decide +kernel) rfl
end GN8
end MH13_3
