section GM2
variable {l : Launch} {D : va_G} {xt : tk_XT} {ro : Nat → Nat → Int → Prop} {ads tw : List Nat}
/-- GooseIceModel.four -/
def gm_K9 : tk_K := (220, [(2, 0, 0, 0), (0, 1, 1, 0)], ([((-2147483648), 2147483647), (0, 896)], []), [0], [(0, (0, 0, 0, 10), (0, 2, 1, 0))], ([(none, ([((-2147483648), 2147483647), (0, 896)], []), [0], [(0, (0, 0, 0, 10), (0, 2, 1, 4))])], [(0, 10), (6, 0)]))
def gm_H9 : List tk_Hd := []
theorem gm_9 (hU : gm_U tw) (hxt : tk_xtok xt) : tk_KS l D gk_cl gk_tbl gk_xw xt gk_MN gk_P gm_TY ro (gm_X tw) ads tw 1 gm_K9 := tk_contract (hk := tk_hk0) tk_hk0_ok (gm_xs hU) hxt gk_rok [] 20000 0 0 (Ks := []) (d := 0) (fun _ h => absurd h List.not_mem_nil) (Hs := gm_H9) (by decide +kernel) rfl
/-- GooseIceModel.feed -/
def gm_K10 : tk_K := (219, [(2, 0, 0, 0), (0, 1, 1, 0), (0, 2, 1, 0), (0, 3, 1, 0), (0, 4, 1, 0), (0, 5, 1, 0)], ([((-2147483648), 2147483647), ((-2147483648), 2147483647), ((-2147483648), 2147483647), ((-2147483648), 2147483647), ((-2147483648), 2147483647), (0, 9999)], []), [0, 1], [(0, (0, 0, 0, 0), (2, 1, 0, 0)), (1, (0, 0, 0, 5), (0, 6, 1, 0))], ([(some (0, 7, 1, 0), ([((-2147483648), 2147483647), ((-2147483648), 2147483647), ((-2147483648), 2147483647), ((-2147483648), 2147483647), ((-2147483648), 2147483647), (0, 9999), ((-1), 900)], []), [0, 1], [(1, (0, 0, 0, 5), (0, 6, 1, 0))])], [(0, 10), (6, 0)]))
def gm_H10 : List tk_Hd := []
theorem gm_10 (hU : gm_U tw) (hxt : tk_xtok xt) : tk_KS l D gk_cl gk_tbl gk_xw xt gk_MN gk_P gm_TY ro (gm_X tw) ads tw 2 gm_K10 := tk_contract (hk := tk_hk0) tk_hk0_ok (gm_xs hU) hxt gk_rok [] 20000 0 0 (Ks := [gm_K9]) (d := 1) (List.forall_mem_cons.mpr ⟨tk_KS_up (by decide) (gm_9 hU hxt), (fun _ h => absurd h List.not_mem_nil)⟩) (Hs := gm_H10) (by decide +kernel) rfl
/-- GooseIceModel.fault -/
def gm_K11 : tk_K := (235, [(2, 0, 0, 0), (0, 1, 1, 0)], ([((-2147483648), 2147483647), (0, 9999)], []), [0, 1], [(0, (0, 0, 0, 0), (2, 1, 0, 0)), (1, (0, 0, 0, 5), (0, 2, 1, 0))], ([(some (0, 3, 1, 0), ([((-2147483648), 2147483647), (0, 9999), ((-1), 2147483647)], []), [0, 1], [(1, (0, 0, 0, 5), (0, 2, 1, 0))])], []))
def gm_H11 : List tk_Hd := []
theorem gm_11 (hU : gm_U tw) (hxt : tk_xtok xt) : tk_KS l D gk_cl gk_tbl gk_xw xt gk_MN gk_P gm_TY ro (gm_X tw) ads tw 1 gm_K11 := tk_contract (hk := tk_hk0) tk_hk0_ok (gm_xs hU) hxt gk_rok [] 20000 0 0 (Ks := []) (d := 0) (fun _ h => absurd h List.not_mem_nil) (Hs := gm_H11) (by decide +kernel) rfl
/-- GooseIceModel.setOf -/
def gm_K12 : tk_K := (273, [(2, 0, 0, 0), (0, 1, 1, 0)], ([(0, 3)], []), [0], [], ([(some (0, 2, 1, 0), ([(0, 3), (0, 1023)], []), [0], [])], []))
def gm_H12 : List tk_Hd := [(4, [(0, (2, 0, 0, 0)), (1, (0, 1, 1, 0)), (2, (0, 2, 1, 0)), (3, (0, 3, 1, 0))], ([(0, 3), (0, 1023), (0, 10)], []), [0], [], [(0, 1, (0, 0, 0, 0)), (1, 10, (0, 3, 1, 0)), (0, 0, (0, 0, 0, 0))]), (60, [(0, (2, 0, 0, 0)), (1, (0, 1, 1, 0)), (2, (0, 2, 1, 0)), (3, (0, 3, 1, 0))], ([(0, 3), (0, 1023), (0, 8)], []), [0], [], [(0, 0, (0, 0, 0, 0)), (1, 8, (0, 3, 1, 0)), (0, 0, (0, 0, 0, 0))])]
theorem gm_12 (hU : gm_U tw) (hxt : tk_xtok xt) : tk_KS l D gk_cl gk_tbl gk_xw xt gk_MN gk_P gm_TY ro (gm_X tw) ads tw 3 gm_K12 := tk_contract (hk := tk_hk0) tk_hk0_ok (gm_xs hU) hxt gk_rok [253, 254, 256, 263, 266, 267] 20000 2 3 (Ks := []) (d := 0) (fun _ h => absurd h List.not_mem_nil) (Hs := gm_H12) (by decide +kernel) rfl
/-- GooseIceModel.told -/
def gm_K13 : tk_K := (274, [(2, 0, 0, 0), (0, 1, 1, 0)], ([((-2147483648), 2147483647), (0, 9999)], []), [0, 1], [(0, (0, 0, 0, 0), (2, 1, 0, 0)), (1, (0, 0, 0, 5), (0, 2, 1, 0))], ([(some (0, 3, 1, 0), ([((-2147483648), 2147483647), (0, 9999), ((-1), 10030), (0, 1)], []), [0, 1], [(0, (0, 0, 0, 2), (0, 4, 1, 0)), (1, (0, 0, 0, 5), (0, 2, 1, 0))])], [(0, 2)]))
def gm_H13 : List tk_Hd := []
theorem gm_13 (hU : gm_U tw) (hxt : tk_xtok xt) : tk_KS l D gk_cl gk_tbl gk_xw xt gk_MN gk_P gm_TY ro (gm_X tw) ads tw 5 gm_K13 := tk_contract (hk := tk_hk0) tk_hk0_ok (gm_xs hU) hxt gk_rok [207, 208] 20000 1 0 (Ks := [gm_K12]) (d := 3) (List.forall_mem_cons.mpr ⟨tk_KS_up (by decide) (gm_12 hU hxt), (fun _ h => absurd h List.not_mem_nil)⟩) (Hs := gm_H13) (by decide +kernel) rfl
/-- GooseIceModel.isCell -/
def gm_K14 : tk_K := (255, [(2, 0, 0, 0), (1, 1, 1, 0)], ([((-9223372036854775808), 9223372036854775807)], []), [0], [], ([(some (0, 0, 0, 0), ([((-9223372036854775808), 9223372036854775807)], []), [0], []), (some (0, 0, 0, 1), ([(0, 9)], []), [0], [])], []))
def gm_H14 : List tk_Hd := []
theorem gm_14 (hU : gm_U tw) (hxt : tk_xtok xt) : tk_KS l D gk_cl gk_tbl gk_xw xt gk_MN gk_P gm_TY ro (gm_X tw) ads tw 1 gm_K14 := tk_contract (hk := tk_hk0) tk_hk0_ok (gm_xs hU) hxt gk_rok [] 20000 0 0 (Ks := []) (d := 0) (fun _ h => absurd h List.not_mem_nil) (Hs := gm_H14) (by decide +kernel) rfl
/-- GooseIceModel.loadBut -/
def gm_K15 : tk_K := (272, [(2, 0, 0, 0), (0, 1, 1, 0), (0, 2, 1, 0)], ([(0, 9), ((-1), 99)], []), [0], [], ([(some (0, 3, 1, 0), ([(0, 9), ((-1), 99), ((-2147483648), 2147483647)], []), [0], [])], []))
def gm_H15 : List tk_Hd := [(5, [(0, (2, 0, 0, 0)), (1, (0, 1, 1, 0)), (2, (0, 2, 1, 0)), (3, (0, 3, 1, 0)), (4, (0, 4, 1, 0))], ([(0, 9), ((-1), 99), ((-2147483648), 2147483647), (0, 8)], []), [0], [], [(0, 0, (0, 0, 0, 0)), (1, 8, (0, 4, 1, 0)), (0, 0, (0, 0, 0, 0))])]
theorem gm_15 (hU : gm_U tw) (hxt : tk_xtok xt) : tk_KS l D gk_cl gk_tbl gk_xw xt gk_MN gk_P gm_TY ro (gm_X tw) ads tw 3 gm_K15 := tk_contract (hk := tk_hk0) tk_hk0_ok (gm_xs hU) hxt gk_rok [253, 254, 260, 264, 265, 266] 20000 2 3 (Ks := []) (d := 0) (fun _ h => absurd h List.not_mem_nil) (Hs := gm_H15) (by decide +kernel) rfl
/-- GooseIceModel.cameAgo -/
def gm_K16 : tk_K := (269, [(2, 0, 0, 0), (0, 1, 1, 0), (0, 2, 1, 0)], ([(0, 9), (0, 20)], []), [0], [], ([(some (0, 3, 1, 0), ([(0, 9), (0, 20), ((-2147483648), 2147483647)], []), [0], [])], []))
def gm_H16 : List tk_Hd := []
theorem gm_16 (hU : gm_U tw) (hxt : tk_xtok xt) : tk_KS l D gk_cl gk_tbl gk_xw xt gk_MN gk_P gm_TY ro (gm_X tw) ads tw 1 gm_K16 := tk_contract (hk := (tk_hkR [(0, [((0, 2), 0, 20, 0, [])])])) (tk_hkR_ok _) (gm_xs hU) hxt gk_rok [] 20000 0 0 (Ks := []) (d := 0) (fun _ h => absurd h List.not_mem_nil) (Hs := gm_H16) (by decide +kernel) rfl
/-- GooseIceModel.cameLately -/
def gm_K17 : tk_K := (270, [(2, 0, 0, 0), (0, 1, 1, 0)], ([(0, 9)], []), [0], [], ([(some (0, 2, 1, 0), ([(0, 9), ((-2147483648), 2147483647)], []), [0], [])], []))
def gm_H17 : List tk_Hd := [(4, [(0, (2, 0, 0, 0)), (1, (0, 1, 1, 0)), (2, (0, 2, 1, 0)), (3, (0, 3, 1, 0))], ([(0, 9), ((-2147483648), 2147483647), (0, 20)], []), [0], [], [(0, 0, (0, 0, 0, 0)), (1, 20, (0, 3, 1, 0)), (0, 0, (0, 0, 0, 0))])]
theorem gm_17 (hU : gm_U tw) (hxt : tk_xtok xt) : tk_KS l D gk_cl gk_tbl gk_xw xt gk_MN gk_P gm_TY ro (gm_X tw) ads tw 2 gm_K17 := tk_contract (hk := tk_hk0) tk_hk0_ok (gm_xs hU) hxt gk_rok [] 20000 0 3 (Ks := [gm_K16]) (d := 1) (List.forall_mem_cons.mpr ⟨tk_KS_up (by decide) (gm_16 hU hxt), (fun _ h => absurd h List.not_mem_nil)⟩) (Hs := gm_H17) (by decide +kernel) rfl
/-- GooseIceModel.strengthOf -/
def gm_K18 : tk_K := (271, [(2, 0, 0, 0), (0, 1, 1, 0)], ([(0, 9)], []), [0], [], ([(some (0, 2, 1, 0), ([(0, 9), (0, 2147483647)], []), [0], [])], []))
def gm_H18 : List tk_Hd := []
theorem gm_18 (hU : gm_U tw) (hxt : tk_xtok xt) : tk_KS l D gk_cl gk_tbl gk_xw xt gk_MN gk_P gm_TY ro (gm_X tw) ads tw 5 gm_K18 := tk_contract (hk := tk_hk0) tk_hk0_ok (gm_xs hU) hxt gk_rok [253, 256, 263] 20000 2 0 (Ks := [gm_K16, gm_K17]) (d := 2) (List.forall_mem_cons.mpr ⟨tk_KS_up (by decide) (gm_16 hU hxt), (List.forall_mem_cons.mpr ⟨tk_KS_up (by decide) (gm_17 hU hxt), (fun _ h => absurd h List.not_mem_nil)⟩)⟩) (Hs := gm_H18) (by decide +kernel) rfl
/-- GooseIceModel.ice -/
def gm_K19 : tk_K := (275, [(2, 0, 0, 0), (0, 1, 1, 0), (0, 2, 1, 0)], ([((-2147483648), 2147483647), ((-2147483648), 2147483647), (0, 9999)], []), [0, 1], [(0, (0, 0, 0, 0), (2, 1, 0, 0)), (1, (0, 0, 0, 5), (0, 3, 1, 0))], ([(some (0, 4, 1, 0), ([((-2147483648), 2147483647), ((-2147483648), 2147483647), (0, 9999), ((-2147483648), 2147483647), (0, 1)], []), [0, 1], [(0, (0, 0, 0, 2), (0, 5, 1, 0)), (1, (0, 0, 0, 5), (0, 3, 1, 0))])], [(0, 2)]))
def gm_H19 : List tk_Hd := []
theorem gm_19 (hU : gm_U tw) (hxt : tk_xtok xt) : tk_KS l D gk_cl gk_tbl gk_xw xt gk_MN gk_P gm_TY ro (gm_X tw) ads tw 9 gm_K19 := tk_contract (hk := tk_hk0) tk_hk0_ok (gm_xs hU) hxt gk_rok [207, 208, 253, 256, 257] 20000 3 0 (Ks := [gm_K14, gm_K15, gm_K17, gm_K18]) (d := 5) (List.forall_mem_cons.mpr ⟨tk_KS_up (by decide) (gm_14 hU hxt), (List.forall_mem_cons.mpr ⟨tk_KS_up (by decide) (gm_15 hU hxt), (List.forall_mem_cons.mpr ⟨tk_KS_up (by decide) (gm_17 hU hxt), (List.forall_mem_cons.mpr ⟨tk_KS_up (by decide) (gm_18 hU hxt), (fun _ h => absurd h List.not_mem_nil)⟩)⟩)⟩)⟩) (Hs := gm_H19) (by decide +kernel) rfl
/-- GooseIceModel.walker -/
def gm_K20 : tk_K := (276, [(2, 0, 0, 0), (0, 1, 1, 0), (0, 2, 1, 0)], ([((-2147483648), 2147483647), ((-2147483648), 2147483647), (0, 9999)], []), [0, 1], [(0, (0, 0, 0, 0), (2, 1, 0, 0)), (1, (0, 0, 0, 5), (0, 3, 1, 0))], ([(some (0, 4, 1, 0), ([((-2147483648), 2147483647), ((-2147483648), 2147483647), (0, 9999), ((-2147483648), 2147483647), (0, 1)], []), [0, 1], [(0, (0, 0, 0, 2), (0, 5, 1, 0)), (1, (0, 0, 0, 5), (0, 3, 1, 0))])], [(0, 2)]))
def gm_H20 : List tk_Hd := []
theorem gm_20 (hU : gm_U tw) (hxt : tk_xtok xt) : tk_KS l D gk_cl gk_tbl gk_xw xt gk_MN gk_P gm_TY ro (gm_X tw) ads tw 3 gm_K20 := tk_contract (hk := tk_hk0) tk_hk0_ok (gm_xs hU) hxt gk_rok [207, 208, 254, 258, 264, 265, 267] 20000 2 0 (Ks := []) (d := 0) (fun _ h => absurd h List.not_mem_nil) (Hs := gm_H20) (by decide +kernel) rfl
/-- GooseIceModel.routeAt -/
def gm_K21 : tk_K := (277, [(2, 0, 0, 0), (0, 1, 1, 0), (0, 2, 1, 0)], ([((-2147483648), 2147483647), ((-2147483648), 2147483647), (0, 9999)], []), [0, 1], [(0, (0, 0, 0, 0), (2, 1, 0, 0)), (1, (0, 0, 0, 5), (0, 3, 1, 0))], ([(some (0, 4, 1, 0), ([((-2147483648), 2147483647), ((-2147483648), 2147483647), (0, 9999), ((-1), 9), (0, 6)], []), [0, 1], [(0, (0, 0, 0, 2), (0, 5, 1, 0)), (1, (0, 0, 0, 5), (0, 3, 1, 0))])], [(0, 2)]))
def gm_H21 : List tk_Hd := []
theorem gm_21 (hU : gm_U tw) (hxt : tk_xtok xt) : tk_KS l D gk_cl gk_tbl gk_xw xt gk_MN gk_P gm_TY ro (gm_X tw) ads tw 3 gm_K21 := tk_contract (hk := tk_hk0) tk_hk0_ok (gm_xs hU) hxt gk_rok [207, 208, 254, 258, 267, 268] 20000 2 0 (Ks := []) (d := 0) (fun _ h => absurd h List.not_mem_nil) (Hs := gm_H21) (by decide +kernel) rfl
/-- GooseIceModel.way -/
def gm_K22 : tk_K := (279, [(2, 0, 0, 0), (0, 1, 1, 0), (0, 2, 1, 0)], ([((-2147483648), 2147483647), ((-2147483648), 2147483647), (0, 9999)], []), [0, 1], [(0, (0, 0, 0, 0), (2, 1, 0, 0)), (1, (0, 0, 0, 5), (0, 3, 1, 0))], ([(some (0, 4, 1, 0), ([((-2147483648), 2147483647), ((-2147483648), 2147483647), (0, 9999), ((-1), 1), (0, 1)], []), [0, 1], [(0, (0, 0, 0, 2), (0, 5, 1, 0)), (1, (0, 0, 0, 5), (0, 3, 1, 0))])], [(0, 2)]))
def gm_H22 : List tk_Hd := []
theorem gm_22 (hU : gm_U tw) (hxt : tk_xtok xt) : tk_KS l D gk_cl gk_tbl gk_xw xt gk_MN gk_P gm_TY ro (gm_X tw) ads tw 4 gm_K22 := tk_contract (hk := tk_hk0) tk_hk0_ok (gm_xs hU) hxt gk_rok [207, 208, 253, 260, 262, 278] 20000 2 0 (Ks := [gm_K14]) (d := 1) (List.forall_mem_cons.mpr ⟨tk_KS_up (by decide) (gm_14 hU hxt), (fun _ h => absurd h List.not_mem_nil)⟩) (Hs := gm_H22) (by decide +kernel) rfl
end GM2
