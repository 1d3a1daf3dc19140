section MH52_0
section GN2
variable {l : Launch} {D : va_G} {xt : tk_XT} {ro : Nat → Nat → Int → Prop} {ads tw : List Nat}
/-- GooseIceModel.four -/
def gn_K9 : tk_K := (220, [(2, 0, 0, 0), (0, 1, 1, 0)], ([((-2147483648), 2147483647), (0, 896)], []), [0], [(0, (0, 0, 0, 10), (0, 2, 1, 0))], ([(none, ([((-2147483648), 2147483647), (0, 896)], []), [0], [(0, (0, 0, 0, 10), (0, 2, 1, 4))])], [(0, 10), (6, 0)]))
def gn_H9 : List tk_Hd := []
theorem gn_9 (hU : gm_U tw) (hxt : tk_xtok xt) : tk_KS l D gk_cl gk_tbl gk_xw xt gk_MN gk_P gm_TY ro (gm_X tw) ads tw 1 gn_K9 := tk_contract (hk := tk_hk0) tk_hk0_ok (gm_xs hU) hxt gk_rok [] 20000 0 0 (Ks := []) (d := 0) (fun _ h => absurd h List.not_mem_nil) (Hs := gn_H9) (by decide +kernel) rfl
/-- GooseIceModel.feed -/
def gn_K10 : tk_K := (219, [(2, 0, 0, 0), (0, 1, 1, 0), (0, 2, 1, 0), (0, 3, 1, 0), (0, 4, 1, 0), (0, 5, 1, 0)], ([((-2147483648), 2147483647), ((-2147483648), 2147483647), ((-2147483648), 2147483647), ((-2147483648), 2147483647), ((-2147483648), 2147483647)], []), [0], [], ([(some (0, 6, 1, 0), ([((-2147483648), 2147483647), ((-2147483648), 2147483647), ((-2147483648), 2147483647), ((-2147483648), 2147483647), ((-2147483648), 2147483647), ((-1), 900)], []), [0], [])], [(0, 10), (6, 0)]))
def gn_H10 : List tk_Hd := []
theorem gn_10 (hU : gm_U tw) (hxt : tk_xtok xt) : tk_KS l D gk_cl gk_tbl gk_xw xt gk_MN gk_P gm_TY ro (gm_X tw) ads tw 2 gn_K10 := tk_contract (hk := tk_hk0) tk_hk0_ok (gm_xs hU) hxt gk_rok [] 20000 0 0 (Ks := [gn_K9]) (d := 1) (List.forall_mem_cons.mpr ⟨tk_KS_up (by decide) (gn_9 hU hxt), (fun _ h => absurd h List.not_mem_nil)⟩) (Hs := gn_H10) (by decide +kernel) rfl
/-- GooseIceModel.fault -/
def gn_K11 : tk_K := (235, [(2, 0, 0, 0), (0, 1, 1, 0)], ([((-2147483648), 2147483647)], []), [0], [], ([(some (0, 2, 1, 0), ([((-2147483648), 2147483647), ((-1), 900)], []), [0], [])], []))
def gn_H11 : List tk_Hd := []
theorem gn_11 (hU : gm_U tw) (hxt : tk_xtok xt) : tk_KS l D gk_cl gk_tbl gk_xw xt gk_MN gk_P gm_TY ro (gm_X tw) ads tw 1 gn_K11 := tk_contract (hk := tk_hk0) tk_hk0_ok (gm_xs hU) hxt gk_rok [] 20000 0 0 (Ks := []) (d := 0) (fun _ h => absurd h List.not_mem_nil) (Hs := gn_H11) (by decide +kernel) rfl
/-- GooseIceModel.setOf -/
def gn_K12 : tk_K := (273, [(2, 0, 0, 0), (0, 1, 1, 0)], ([(0, 3)], []), [0], [], ([(some (0, 2, 1, 0), ([(0, 3), (0, 1023)], []), [0], [])], []))
def gn_H12 : List tk_Hd := [(4, [(0, (2, 0, 0, 0)), (1, (0, 1, 1, 0)), (2, (0, 2, 1, 0)), (3, (0, 3, 1, 0))], ([(0, 3), (0, 1023), (0, 10)], []), [0], [], [(0, 1, (0, 0, 0, 0)), (1, 10, (0, 3, 1, 0)), (0, 0, (0, 0, 0, 0))]), (60, [(0, (2, 0, 0, 0)), (1, (0, 1, 1, 0)), (2, (0, 2, 1, 0)), (3, (0, 3, 1, 0))], ([(0, 3), (0, 1023), (0, 8)], []), [0], [], [(0, 0, (0, 0, 0, 0)), (1, 8, (0, 3, 1, 0)), (0, 0, (0, 0, 0, 0))])]
theorem gn_12 (hU : gm_U tw) (hxt : tk_xtok xt) : tk_KS l D gk_cl gk_tbl gk_xw xt gk_MN gk_P gm_TY ro (gm_X tw) ads tw 3 gn_K12 := tk_contract (hk := tk_hk0) tk_hk0_ok (gm_xs hU) hxt gk_rok [253, 254, 256, 263, 266, 267] 20000 2 3 (Ks := []) (d := 0) (fun _ h => absurd h List.not_mem_nil) (Hs := gn_H12) (by decide +kernel) rfl
/-- GooseIceModel.told -/
def gn_K13 : tk_K := (274, [(2, 0, 0, 0), (0, 1, 1, 0)], ([((-2147483648), 2147483647)], []), [0], [], ([(some (0, 2, 1, 0), ([((-2147483648), 2147483647), ((-1), 9999), (0, 1)], []), [0], [(0, (0, 0, 0, 2), (0, 3, 1, 0))])], [(0, 2)]))
def gn_H13 : List tk_Hd := []
theorem gn_13 (hU : gm_U tw) (hxt : tk_xtok xt) : tk_KS l D gk_cl gk_tbl gk_xw xt gk_MN gk_P gm_TY ro (gm_X tw) ads tw 5 gn_K13 := tk_contract (hk := tk_hk0) tk_hk0_ok (gm_xs hU) hxt gk_rok [207, 208] 20000 1 0 (Ks := [gn_K12]) (d := 3) (List.forall_mem_cons.mpr ⟨tk_KS_up (by decide) (gn_12 hU hxt), (fun _ h => absurd h List.not_mem_nil)⟩) (Hs := gn_H13) (by decide +kernel) rfl
/-- GooseIceModel.isCell -/
def gn_K14 : tk_K := (255, [(2, 0, 0, 0), (1, 1, 1, 0)], ([((-2147483648), 2147483647)], []), [0], [], ([(some (0, 0, 0, 0), ([((-2147483648), 2147483647)], []), [0], []), (some (0, 0, 0, 1), ([(0, 9)], []), [0], [])], []))
def gn_H14 : List tk_Hd := []
theorem gn_14 (hU : gm_U tw) (hxt : tk_xtok xt) : tk_KS l D gk_cl gk_tbl gk_xw xt gk_MN gk_P gm_TY ro (gm_X tw) ads tw 1 gn_K14 := tk_contract (hk := tk_hk0) tk_hk0_ok (gm_xs hU) hxt gk_rok [] 20000 0 0 (Ks := []) (d := 0) (fun _ h => absurd h List.not_mem_nil) (Hs := gn_H14) (by decide +kernel) rfl
/-- GooseIceModel.loadBut -/
def gn_K15 : tk_K := (272, [(2, 0, 0, 0), (0, 1, 1, 0), (0, 2, 1, 0)], ([(0, 9), ((-1), 7)], []), [0], [], ([(some (0, 3, 1, 0), ([(0, 9), ((-1), 7), ((-2147483648), 2147483647)], []), [0], [])], []))
def gn_H15 : List tk_Hd := [(5, [(0, (2, 0, 0, 0)), (1, (0, 1, 1, 0)), (2, (0, 2, 1, 0)), (3, (0, 3, 1, 0)), (4, (0, 4, 1, 0))], ([(0, 9), ((-1), 7), ((-2147483648), 2147483647), (0, 8)], []), [0], [], [(0, 0, (0, 0, 0, 0)), (1, 8, (0, 4, 1, 0)), (0, 0, (0, 0, 0, 0))])]
theorem gn_15 (hU : gm_U tw) (hxt : tk_xtok xt) : tk_KS l D gk_cl gk_tbl gk_xw xt gk_MN gk_P gm_TY ro (gm_X tw) ads tw 3 gn_K15 := tk_contract (hk := tk_hk0) tk_hk0_ok (gm_xs hU) hxt gk_rok [253, 254, 260, 264, 265, 266] 20000 2 3 (Ks := []) (d := 0) (fun _ h => absurd h List.not_mem_nil) (Hs := gn_H15) (by decide +kernel) rfl
/-- GooseIceModel.cameAgo -/
def gn_K16 : tk_K := (269, [(2, 0, 0, 0), (0, 1, 1, 0), (0, 2, 1, 0)], ([(0, 9), (0, 19)], []), [0], [], ([(some (0, 3, 1, 0), ([(0, 9), (0, 19), ((-2147483648), 2147483647)], []), [0], [])], []))
def gn_H16 : List tk_Hd := []
theorem gn_16 (hU : gm_U tw) (hxt : tk_xtok xt) : tk_KS l D gk_cl gk_tbl gk_xw xt gk_MN gk_P gm_TY ro (gm_X tw) ads tw 1 gn_K16 := tk_contract (hk := (tk_hkR [(0, [((0, 2), 0, 20, 0, [])])])) (tk_hkR_ok _) (gm_xs hU) hxt gk_rok [] 20000 0 0 (Ks := []) (d := 0) (fun _ h => absurd h List.not_mem_nil) (Hs := gn_H16) (by decide +kernel) rfl
/-- GooseIceModel.cameLately -/
def gn_K17 : tk_K := (270, [(2, 0, 0, 0), (0, 1, 1, 0)], ([(0, 9)], []), [0], [], ([(some (0, 2, 1, 0), ([(0, 9), ((-2147483648), 2147483647)], []), [0], [])], []))
def gn_H17 : List tk_Hd := [(4, [(0, (2, 0, 0, 0)), (1, (0, 1, 1, 0)), (2, (0, 2, 1, 0)), (3, (0, 3, 1, 0))], ([(0, 9), ((-2147483648), 2147483647), (0, 20)], []), [0], [], [(0, 0, (0, 0, 0, 0)), (1, 20, (0, 3, 1, 0)), (0, 0, (0, 0, 0, 0))])]
theorem gn_17 (hU : gm_U tw) (hxt : tk_xtok xt) : tk_KS l D gk_cl gk_tbl gk_xw xt gk_MN gk_P gm_TY ro (gm_X tw) ads tw 2 gn_K17 := tk_contract (hk := tk_hk0) tk_hk0_ok (gm_xs hU) hxt gk_rok [] 20000 0 3 (Ks := [gn_K16]) (d := 1) (List.forall_mem_cons.mpr ⟨tk_KS_up (by decide) (gn_16 hU hxt), (fun _ h => absurd h List.not_mem_nil)⟩) (Hs := gn_H17) (by decide +kernel) rfl
/-- GooseIceModel.strengthOf -/
def gn_K18 : tk_K := (271, [(2, 0, 0, 0), (0, 1, 1, 0)], ([(0, 9)], []), [0], [], ([(some (0, 2, 1, 0), ([(0, 9), (0, 2147483647)], []), [0], [])], []))
def gn_H18 : List tk_Hd := []
theorem gn_18 (hU : gm_U tw) (hxt : tk_xtok xt) : tk_KS l D gk_cl gk_tbl gk_xw xt gk_MN gk_P gm_TY ro (gm_X tw) ads tw 5 gn_K18 := tk_contract (hk := tk_hk0) tk_hk0_ok (gm_xs hU) hxt gk_rok [253, 256, 263] 20000 2 0 (Ks := [gn_K17]) (d := 2) (List.forall_mem_cons.mpr ⟨tk_KS_up (by decide) (gn_17 hU hxt), (fun _ h => absurd h List.not_mem_nil)⟩) (Hs := gn_H18) (by decide +kernel) rfl
/-- GooseIceModel.ice -/
def gn_K19 : tk_K := (275, [(2, 0, 0, 0), (0, 1, 1, 0), (0, 2, 1, 0)], ([((-2147483648), 2147483647), ((-2147483648), 2147483647)], []), [0], [], ([(some (0, 3, 1, 0), ([((-2147483648), 2147483647), ((-2147483648), 2147483647), ((-2147483648), 2147483647), (0, 1)], []), [0], [(0, (0, 0, 0, 2), (0, 4, 1, 0))])], [(0, 2)]))
def gn_H19 : List tk_Hd := []
theorem gn_19 (hU : gm_U tw) (hxt : tk_xtok xt) : tk_KS l D gk_cl gk_tbl gk_xw xt gk_MN gk_P gm_TY ro (gm_X tw) ads tw 9 gn_K19 := tk_contract (hk := tk_hk0) tk_hk0_ok (gm_xs hU) hxt gk_rok [207, 208, 253, 256, 257] 20000 3 0 (Ks := [gn_K14, gn_K15, gn_K17, gn_K18]) (d := 5) (List.forall_mem_cons.mpr ⟨tk_KS_up (by decide) (gn_14 hU hxt), (List.forall_mem_cons.mpr ⟨tk_KS_up (by decide) (gn_15 hU hxt), (List.forall_mem_cons.mpr ⟨tk_KS_up (by decide) (gn_17 hU hxt), (List.forall_mem_cons.mpr ⟨tk_KS_up (by decide) (gn_18 hU hxt), (fun _ h => absurd h List.not_mem_nil)⟩)⟩)⟩)⟩) (Hs := gn_H19) (by decide +kernel) rfl
/-- GooseIceModel.walker -/
def gn_K20 : tk_K := (276, [(2, 0, 0, 0), (0, 1, 1, 0), (0, 2, 1, 0)], ([((-2147483648), 2147483647), ((-2147483648), 2147483647)], []), [0], [], ([(some (0, 3, 1, 0), ([((-2147483648), 2147483647), ((-2147483648), 2147483647), ((-2147483648), 2147483647), (0, 1)], []), [0], [(0, (0, 0, 0, 2), (0, 4, 1, 0))])], [(0, 2)]))
def gn_H20 : List tk_Hd := []
theorem gn_20 (hU : gm_U tw) (hxt : tk_xtok xt) : tk_KS l D gk_cl gk_tbl gk_xw xt gk_MN gk_P gm_TY ro (gm_X tw) ads tw 3 gn_K20 := tk_contract (hk := tk_hk0) tk_hk0_ok (gm_xs hU) hxt gk_rok [207, 208, 254, 258, 264, 265, 267] 20000 2 0 (Ks := []) (d := 0) (fun _ h => absurd h List.not_mem_nil) (Hs := gn_H20) (by decide +kernel) rfl
/-- GooseIceModel.routeAt -/
def gn_K21 : tk_K := (277, [(2, 0, 0, 0), (0, 1, 1, 0), (0, 2, 1, 0)], ([((-2147483648), 2147483647), ((-2147483648), 2147483647)], []), [0], [], ([(some (0, 3, 1, 0), ([((-2147483648), 2147483647), ((-2147483648), 2147483647), ((-1), 9), (0, 6)], []), [0], [(0, (0, 0, 0, 2), (0, 4, 1, 0))])], [(0, 2)]))
def gn_H21 : List tk_Hd := []
theorem gn_21 (hU : gm_U tw) (hxt : tk_xtok xt) : tk_KS l D gk_cl gk_tbl gk_xw xt gk_MN gk_P gm_TY ro (gm_X tw) ads tw 3 gn_K21 := tk_contract (hk := tk_hk0) tk_hk0_ok (gm_xs hU) hxt gk_rok [207, 208, 254, 258, 267, 268] 20000 2 0 (Ks := []) (d := 0) (fun _ h => absurd h List.not_mem_nil) (Hs := gn_H21) (by decide +kernel) rfl
/-- GooseIceModel.way -/
def gn_K22 : tk_K := (279, [(2, 0, 0, 0), (0, 1, 1, 0), (0, 2, 1, 0)], ([((-2147483648), 2147483647), ((-2147483648), 2147483647)], []), [0], [], ([(some (0, 3, 1, 0), ([((-2147483648), 2147483647), ((-2147483648), 2147483647), ((-1), 1), (0, 1)], []), [0], [(0, (0, 0, 0, 2), (0, 4, 1, 0))])], [(0, 2)]))
def gn_H22 : List tk_Hd := []
theorem gn_22 (hU : gm_U tw) (hxt : tk_xtok xt) : tk_KS l D gk_cl gk_tbl gk_xw xt gk_MN gk_P gm_TY ro (gm_X tw) ads tw 4 gn_K22 := tk_contract (hk := tk_hk0) tk_hk0_ok (gm_xs hU) hxt gk_rok [207, 208, 253, 260, 262, 278] 20000 2 0 (Ks := [gn_K14]) (d := 1) (List.forall_mem_cons.mpr ⟨tk_KS_up (by decide) (gn_14 hU hxt), (fun _ h => absurd h List.not_mem_nil)⟩) (Hs := gn_H22) (by decide +kernel) rfl
end GN2
end MH52_0
section MH52_1
section GN3
variable {l : Launch} {D : va_G} {xt : tk_XT} {ro : Nat → Nat → Int → Prop} {ads tw : List Nat}
/-- GooseIceModel.beside -/
def gn_K23 : tk_K := (280, [(2, 0, 0, 0), (0, 1, 1, 0), (0, 2, 1, 0)], ([((-2147483648), 2147483647), ((-2147483648), 2147483647)], []), [0], [], ([(some (0, 3, 1, 0), ([((-2147483648), 2147483647), ((-2147483648), 2147483647), ((-1), 1), (0, 1)], []), [0], [(0, (0, 0, 0, 2), (0, 4, 1, 0))])], [(0, 2)]))
def gn_H23 : List tk_Hd := []
theorem gn_23 (hU : gm_U tw) (hxt : tk_xtok xt) : tk_KS l D gk_cl gk_tbl gk_xw xt gk_MN gk_P gm_TY ro (gm_X tw) ads tw 3 gn_K23 := tk_contract (hk := tk_hk0) tk_hk0_ok (gm_xs hU) hxt gk_rok [207, 208, 253, 260, 278] 20000 1 0 (Ks := [gn_K14]) (d := 1) (List.forall_mem_cons.mpr ⟨tk_KS_up (by decide) (gn_14 hU hxt), (fun _ h => absurd h List.not_mem_nil)⟩) (Hs := gn_H23) (by decide +kernel) rfl
/-- GooseIceModel.within -/
def gn_K24 : tk_K := (281, [(2, 0, 0, 0), (0, 1, 1, 0)], ([((-2147483648), 2147483647)], []), [0], [], ([(some (0, 2, 1, 0), ([((-2147483648), 2147483647), ((-1), 255), (0, 1)], []), [0], [(0, (0, 0, 0, 2), (0, 3, 1, 0))])], [(0, 2)]))
def gn_H24 : List tk_Hd := [(19, [(0, (2, 0, 0, 0)), (1, (0, 1, 1, 0)), (2, (0, 2, 1, 0)), (3, (0, 3, 1, 0))], ([(0, 9), (0, 255), (0, 8)], []), [0], [], [(0, 0, (0, 0, 0, 0)), (1, 8, (0, 3, 1, 0)), (0, 0, (0, 0, 0, 0))])]
theorem gn_24 (hU : gm_U tw) (hxt : tk_xtok xt) : tk_KS l D gk_cl gk_tbl gk_xw xt gk_MN gk_P gm_TY ro (gm_X tw) ads tw 4 gn_K24 := tk_contract (hk := tk_hk0) tk_hk0_ok (gm_xs hU) hxt gk_rok [207, 208, 254, 265] 20000 2 3 (Ks := [gn_K14]) (d := 1) (List.forall_mem_cons.mpr ⟨tk_KS_up (by decide) (gn_14 hU hxt), (fun _ h => absurd h List.not_mem_nil)⟩) (Hs := gn_H24) (by decide +kernel) rfl
/-- GooseIceModel.halt -/
def gn_K25 : tk_K := (292, [(2, 0, 0, 0), (0, 1, 1, 0)], ([((-2147483648), 2147483647)], []), [0], [], ([(some (0, 2, 1, 0), ([((-2147483648), 2147483647), ((-1), 20), (0, 7)], []), [0], [(0, (0, 0, 0, 2), (0, 3, 1, 0))])], [(0, 2), (1, 18)]))
def gn_H25 : List tk_Hd := []
theorem gn_25 (hU : gm_U tw) (hxt : tk_xtok xt) : tk_KS l D gk_cl gk_tbl gk_xw xt gk_MN gk_P gm_TY ro (gm_X tw) ads tw 3 gn_K25 := tk_contract (hk := tk_hk0) tk_hk0_ok (gm_xs hU) hxt gk_rok [207, 208, 254, 258, 267] 20000 2 0 (Ks := []) (d := 0) (fun _ h => absurd h List.not_mem_nil) (Hs := gn_H25) (by decide +kernel) rfl
/-- GooseIceModel.freezes -/
def gn_K26 : tk_K := (294, [(2, 0, 0, 0), (0, 1, 1, 0)], ([(1, 20)], []), [0], [], ([(some (0, 2, 1, 0), ([(1, 20), ((-2147483648), 2147483647)], []), [0], [])], [(1, 9), (1, 12)]))
def gn_H26 : List tk_Hd := [(4, [(0, (2, 0, 0, 0)), (1, (0, 1, 1, 0)), (2, (0, 2, 1, 0)), (3, (0, 3, 1, 0))], ([(1, 20), ((-2147483648), 2147483647), (0, 10)], []), [0], [], [(0, 0, (0, 0, 0, 0)), (1, 10, (0, 3, 1, 0)), (0, 0, (0, 0, 0, 0))])]
theorem gn_26 (hU : gm_U tw) (hxt : tk_xtok xt) : tk_KS l D gk_cl gk_tbl gk_xw xt gk_MN gk_P gm_TY ro (gm_X tw) ads tw 3 gn_K26 := tk_contract (hk := tk_hk0) tk_hk0_ok (gm_xs hU) hxt gk_rok [253, 256, 263] 20000 2 3 (Ks := []) (d := 0) (fun _ h => absurd h List.not_mem_nil) (Hs := gn_H26) (by decide +kernel) rfl
/-- GooseIceModel.frost -/
def gn_K27 : tk_K := (296, [(2, 0, 0, 0), (0, 1, 1, 0)], ([((-2147483648), 2147483647)], []), [0], [], ([(some (0, 2, 1, 0), ([((-2147483648), 2147483647), ((-2147483648), 2147483647), (0, 1)], []), [0], [(0, (0, 0, 0, 2), (0, 3, 1, 0))])], [(0, 2), (1, 9), (1, 12)]))
def gn_H27 : List tk_Hd := []
theorem gn_27 (hU : gm_U tw) (hxt : tk_xtok xt) : tk_KS l D gk_cl gk_tbl gk_xw xt gk_MN gk_P gm_TY ro (gm_X tw) ads tw 6 gn_K27 := tk_contract (hk := tk_hk0) tk_hk0_ok (gm_xs hU) hxt gk_rok [207, 208, 218, 253, 256, 263] 20000 2 0 (Ks := [gn_K26]) (d := 3) (List.forall_mem_cons.mpr ⟨tk_KS_up (by decide) (gn_26 hU hxt), (fun _ h => absurd h List.not_mem_nil)⟩) (Hs := gn_H27) (by decide +kernel) rfl
/-- GooseIceModel.thaws -/
def gn_K28 : tk_K := (295, [(2, 0, 0, 0), (0, 1, 1, 0)], ([(1, 20)], []), [0], [], ([(some (0, 2, 1, 0), ([(1, 20), ((-2147483648), 2147483647)], []), [0], [])], [(1, 9)]))
def gn_H28 : List tk_Hd := [(4, [(0, (2, 0, 0, 0)), (1, (0, 1, 1, 0)), (2, (0, 2, 1, 0)), (3, (0, 3, 1, 0))], ([(1, 20), ((-2147483648), 2147483647), (0, 10)], []), [0], [], [(0, 0, (0, 0, 0, 0)), (1, 10, (0, 3, 1, 0)), (0, 0, (0, 0, 0, 0))])]
theorem gn_28 (hU : gm_U tw) (hxt : tk_xtok xt) : tk_KS l D gk_cl gk_tbl gk_xw xt gk_MN gk_P gm_TY ro (gm_X tw) ads tw 8 gn_K28 := tk_contract (hk := tk_hk0) tk_hk0_ok (gm_xs hU) hxt gk_rok [253, 256] 20000 2 3 (Ks := [gn_K18]) (d := 5) (List.forall_mem_cons.mpr ⟨tk_KS_up (by decide) (gn_18 hU hxt), (fun _ h => absurd h List.not_mem_nil)⟩) (Hs := gn_H28) (by decide +kernel) rfl
/-- GooseIceModel.thaw -/
def gn_K29 : tk_K := (297, [(2, 0, 0, 0), (0, 1, 1, 0)], ([((-2147483648), 2147483647)], []), [0], [], ([(some (0, 2, 1, 0), ([((-2147483648), 2147483647), ((-2147483648), 2147483647), (0, 1)], []), [0], [(0, (0, 0, 0, 2), (0, 3, 1, 0))])], [(0, 2), (1, 9)]))
def gn_H29 : List tk_Hd := []
theorem gn_29 (hU : gm_U tw) (hxt : tk_xtok xt) : tk_KS l D gk_cl gk_tbl gk_xw xt gk_MN gk_P gm_TY ro (gm_X tw) ads tw 11 gn_K29 := tk_contract (hk := tk_hk0) tk_hk0_ok (gm_xs hU) hxt gk_rok [207, 208, 218, 253, 256] 20000 2 0 (Ks := [gn_K18, gn_K28]) (d := 8) (List.forall_mem_cons.mpr ⟨tk_KS_up (by decide) (gn_18 hU hxt), (List.forall_mem_cons.mpr ⟨tk_KS_up (by decide) (gn_28 hU hxt), (fun _ h => absurd h List.not_mem_nil)⟩)⟩) (Hs := gn_H29) (by decide +kernel) rfl
end GN3
end MH52_1
