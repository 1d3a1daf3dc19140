section GN3
variable {l : Launch} {D : va_G} {xt : tk_XT} {ro : Nat → Nat → Int → Prop} {ads tw : List Nat}
/-- GooseIceModel.beside -/
def gn_K23 : tk_K := (280, [(2, 0, 0, 0), (0, 1, 1, 0), (0, 2, 1, 0)], ([((-2147483648), 2147483647), ((-2147483648), 2147483647)], []), [0], [], ([(some (0, 3, 1, 0), ([((-2147483648), 2147483647), ((-2147483648), 2147483647), ((-1), 1), (0, 1)], []), [0], [(0, (0, 0, 0, 2), (0, 4, 1, 0))])], [(0, 2)]))
def gn_H23 : List tk_Hd := []
theorem gn_23 (hU : gm_U tw) (hxt : tk_xtok xt) : tk_KS l D gk_cl gk_tbl gk_xw xt gk_MN gk_P gm_TY ro (gm_X tw) ads tw 3 gn_K23 := tk_contract (hk := tk_hk0) tk_hk0_ok (gm_xs hU) hxt gk_rok [207, 208, 253, 260, 278] 20000 1 0 (Ks := [gn_K14]) (d := 1) (List.forall_mem_cons.mpr ⟨tk_KS_up (by decide) (gn_14 hU hxt), (fun _ h => absurd h List.not_mem_nil)⟩) (Hs := gn_H23) (by decide +kernel) rfl
/-- GooseIceModel.within -/
def gn_K24 : tk_K := (281, [(2, 0, 0, 0), (0, 1, 1, 0)], ([((-2147483648), 2147483647)], []), [0], [], ([(some (0, 2, 1, 0), ([((-2147483648), 2147483647), ((-1), 255), (0, 1)], []), [0], [(0, (0, 0, 0, 2), (0, 3, 1, 0))])], [(0, 2)]))
def gn_H24 : List tk_Hd := [(19, [(0, (2, 0, 0, 0)), (1, (0, 1, 1, 0)), (2, (0, 2, 1, 0)), (3, (0, 3, 1, 0))], ([(0, 9), (0, 255), (0, 8)], []), [0], [], [(0, 0, (0, 0, 0, 0)), (1, 8, (0, 3, 1, 0)), (0, 0, (0, 0, 0, 0))])]
theorem gn_24 (hU : gm_U tw) (hxt : tk_xtok xt) : tk_KS l D gk_cl gk_tbl gk_xw xt gk_MN gk_P gm_TY ro (gm_X tw) ads tw 4 gn_K24 := tk_contract (hk := tk_hk0) tk_hk0_ok (gm_xs hU) hxt gk_rok [207, 208, 254, 265] 20000 2 3 (Ks := [gn_K14]) (d := 1) (List.forall_mem_cons.mpr ⟨tk_KS_up (by decide) (gn_14 hU hxt), (fun _ h => absurd h List.not_mem_nil)⟩) (Hs := gn_H24) (by decide +kernel) rfl
/-- GooseIceModel.halt -/
def gn_K25 : tk_K := (292, [(2, 0, 0, 0), (0, 1, 1, 0)], ([((-2147483648), 2147483647)], []), [0], [], ([(some (0, 2, 1, 0), ([((-2147483648), 2147483647), ((-1), 20), (0, 7)], []), [0], [(0, (0, 0, 0, 2), (0, 3, 1, 0))])], [(0, 2), (1, 18)]))
def gn_H25 : List tk_Hd := []
theorem gn_25 (hU : gm_U tw) (hxt : tk_xtok xt) : tk_KS l D gk_cl gk_tbl gk_xw xt gk_MN gk_P gm_TY ro (gm_X tw) ads tw 3 gn_K25 := tk_contract (hk := tk_hk0) tk_hk0_ok (gm_xs hU) hxt gk_rok [207, 208, 254, 258, 267] 20000 2 0 (Ks := []) (d := 0) (fun _ h => absurd h List.not_mem_nil) (Hs := gn_H25) (by decide +kernel) rfl
/-- GooseIceModel.freezes -/
def gn_K26 : tk_K := (294, [(2, 0, 0, 0), (0, 1, 1, 0)], ([(1, 20)], []), [0], [], ([(some (0, 2, 1, 0), ([(1, 20), ((-2147483648), 2147483647)], []), [0], [])], [(1, 9), (1, 12)]))
def gn_H26 : List tk_Hd := [(4, [(0, (2, 0, 0, 0)), (1, (0, 1, 1, 0)), (2, (0, 2, 1, 0)), (3, (0, 3, 1, 0))], ([(1, 20), ((-2147483648), 2147483647), (0, 10)], []), [0], [], [(0, 0, (0, 0, 0, 0)), (1, 10, (0, 3, 1, 0)), (0, 0, (0, 0, 0, 0))])]
theorem gn_26 (hU : gm_U tw) (hxt : tk_xtok xt) : tk_KS l D gk_cl gk_tbl gk_xw xt gk_MN gk_P gm_TY ro (gm_X tw) ads tw 3 gn_K26 := tk_contract (hk := tk_hk0) tk_hk0_ok (gm_xs hU) hxt gk_rok [253, 256, 263] 20000 2 3 (Ks := []) (d := 0) (fun _ h => absurd h List.not_mem_nil) (Hs := gn_H26) (by decide +kernel) rfl
/-- GooseIceModel.frost -/
def gn_K27 : tk_K := (296, [(2, 0, 0, 0), (0, 1, 1, 0)], ([((-2147483648), 2147483647)], []), [0], [], ([(some (0, 2, 1, 0), ([((-2147483648), 2147483647), ((-2147483648), 2147483647), (0, 1)], []), [0], [(0, (0, 0, 0, 2), (0, 3, 1, 0))])], [(0, 2), (1, 9), (1, 12)]))
def gn_H27 : List tk_Hd := []
theorem gn_27 (hU : gm_U tw) (hxt : tk_xtok xt) : tk_KS l D gk_cl gk_tbl gk_xw xt gk_MN gk_P gm_TY ro (gm_X tw) ads tw 6 gn_K27 := tk_contract (hk := tk_hk0) tk_hk0_ok (gm_xs hU) hxt gk_rok [207, 208, 218, 253, 256, 263] 20000 2 0 (Ks := [gn_K26]) (d := 3) (List.forall_mem_cons.mpr ⟨tk_KS_up (by decide) (gn_26 hU hxt), (fun _ h => absurd h List.not_mem_nil)⟩) (Hs := gn_H27) (by decide +kernel) rfl
/-- GooseIceModel.thaws -/
def gn_K28 : tk_K := (295, [(2, 0, 0, 0), (0, 1, 1, 0)], ([(1, 20)], []), [0], [], ([(some (0, 2, 1, 0), ([(1, 20), ((-2147483648), 2147483647)], []), [0], [])], [(1, 9)]))
def gn_H28 : List tk_Hd := [(4, [(0, (2, 0, 0, 0)), (1, (0, 1, 1, 0)), (2, (0, 2, 1, 0)), (3, (0, 3, 1, 0))], ([(1, 20), ((-2147483648), 2147483647), (0, 10)], []), [0], [], [(0, 0, (0, 0, 0, 0)), (1, 10, (0, 3, 1, 0)), (0, 0, (0, 0, 0, 0))])]
theorem gn_28 (hU : gm_U tw) (hxt : tk_xtok xt) : tk_KS l D gk_cl gk_tbl gk_xw xt gk_MN gk_P gm_TY ro (gm_X tw) ads tw 8 gn_K28 := tk_contract (hk := tk_hk0) tk_hk0_ok (gm_xs hU) hxt gk_rok [253, 256] 20000 2 3 (Ks := [gn_K18]) (d := 5) (List.forall_mem_cons.mpr ⟨tk_KS_up (by decide) (gn_18 hU hxt), (fun _ h => absurd h List.not_mem_nil)⟩) (Hs := gn_H28) (by decide +kernel) rfl
/-- GooseIceModel.thaw -/
def gn_K29 : tk_K := (297, [(2, 0, 0, 0), (0, 1, 1, 0)], ([((-2147483648), 2147483647)], []), [0], [], ([(some (0, 2, 1, 0), ([((-2147483648), 2147483647), ((-2147483648), 2147483647), (0, 1)], []), [0], [(0, (0, 0, 0, 2), (0, 3, 1, 0))])], [(0, 2), (1, 9)]))
def gn_H29 : List tk_Hd := []
theorem gn_29 (hU : gm_U tw) (hxt : tk_xtok xt) : tk_KS l D gk_cl gk_tbl gk_xw xt gk_MN gk_P gm_TY ro (gm_X tw) ads tw 11 gn_K29 := tk_contract (hk := tk_hk0) tk_hk0_ok (gm_xs hU) hxt gk_rok [207, 208, 218, 253, 256] 20000 2 0 (Ks := [gn_K18, gn_K28]) (d := 8) (List.forall_mem_cons.mpr ⟨tk_KS_up (by decide) (gn_18 hU hxt), (List.forall_mem_cons.mpr ⟨tk_KS_up (by decide) (gn_28 hU hxt), (fun _ h => absurd h List.not_mem_nil)⟩)⟩) (Hs := gn_H29) (by decide +kernel) rfl
end GN3
