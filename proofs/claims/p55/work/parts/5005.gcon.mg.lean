section MG13_0
section GN5
variable {l : Launch} {D : va_G} {xt : tk_XT} {ro : Nat → Nat → Int → Prop} {ads tw : List Nat}
/-- GooseIceModel.rescue -/
def gn_K31 : tk_K := (298, [(2, 0, 0, 0), (0, 1, 1, 0)], ([((-2147483648), 2147483647)], []), [0], [], ([(some (0, 2, 1, 0), ([((-2147483648), 2147483647), ((-2147483648), 2147483647), (0, 7)], []), [0], [(0, (0, 0, 0, 2), (0, 3, 1, 0))])], [(0, 2), (1, 16), (1, 17)]))
def gn_H31 : List tk_Hd := [(16, [(0, (2, 0, 0, 0)), (1, (0, 1, 1, 0)), (2, (0, 2, 1, 0))], ([(0, 7), (0, 10), (1, 8), (0, 10)], [(1, 3, 0)]), [0, 1], [(0, (0, 0, 0, 0), (2, 1, 0, 0)), (1, (0, 0, 0, 1), (0, 3, 1, 0)), (1, (0, 0, 0, 0), (0, 4, 1, 0))], [(0, 0, (0, 0, 0, 0)), (1, 10, (0, 2, 1, 0)), (0, 0, (0, 0, 0, 0))])]
theorem gn_31 (hU : gm_U tw) (hxt : tk_xtok xt) : tk_KS l D gk_cl gk_tbl gk_xw xt gk_MN gk_P gm_TY ro (gm_X tw) ads tw 6 gn_K31 := tk_contract (hk := (tk_hkR [(48, [((0, 2), 0, 10, 0, [])])])) (tk_hkR_ok _) (gm_xs hU) hxt gk_rok [207, 208, 253, 254, 256, 258, 266] 20000 2 3 (Ks := [gn_K12, gn_K30]) (d := 3) (List.forall_mem_cons.mpr ⟨tk_KS_up (by decide) (gn_12 hU hxt), (List.forall_mem_cons.mpr ⟨tk_KS_up (by decide) (gn_30 hU hxt), (fun _ h => absurd h List.not_mem_nil)⟩)⟩) (Hs := gn_H31) (by decide +kernel) rfl
/-- GooseIceModel.breaks -/
def gn_K32 : tk_K := (282, [(2, 0, 0, 0), (0, 1, 1, 0)], ([(0, 9)], []), [0], [], ([(none, ([(0, 9)], []), [0], [])], [(1, 9), (1, 12), (1, 14), (1, 17), (1, 18)]))
def gn_H32 : List tk_Hd := [(26, [(0, (2, 0, 0, 0)), (1, (0, 1, 1, 0)), (2, (0, 2, 1, 0))], ([(0, 9), (0, 21)], []), [0, 1], [(0, (0, 0, 0, 0), (2, 1, 0, 0)), (1, (0, 1, 6, 12), (0, 0, 0, 1)), (1, (0, 1, 6, 9), (0, 0, 0, 0))], [(0, 1, (0, 0, 0, 0)), (1, 21, (0, 2, 1, 0)), (0, 0, (0, 0, 0, 0))]), (55, [(0, (2, 0, 0, 0)), (1, (0, 1, 1, 0)), (2, (0, 2, 1, 0))], ([(0, 9), (0, 8)], []), [0, 1], [(0, (0, 0, 0, 0), (2, 1, 0, 0)), (1, (0, 1, 6, 12), (0, 0, 0, 1)), (1, (0, 1, 6, 9), (0, 0, 0, 0))], [(0, 0, (0, 0, 0, 0)), (1, 8, (0, 2, 1, 0)), (0, 0, (0, 0, 0, 0))])]
theorem gn_32 (hU : gm_U tw) (hxt : tk_xtok xt) : tk_KS l D gk_cl gk_tbl gk_xw xt gk_MN gk_P gm_TY ro (gm_X tw) ads tw 3 gn_K32 := tk_contract (hk := tk_hk0) tk_hk0_ok (gm_xs hU) hxt gk_rok [253, 254, 265, 266, 283] 20000 2 3 (Ks := []) (d := 0) (fun _ h => absurd h List.not_mem_nil) (Hs := gn_H32) (by decide +kernel) rfl
end GN5
end MG13_0
section MG13_1
section GN6
variable {l : Launch} {D : va_G} {xt : tk_XT} {ro : Nat → Nat → Int → Prop} {ads tw : List Nat}
/-- GooseIceModel.melt -/
def gn_K33 : tk_K := (299, [(2, 0, 0, 0), (0, 1, 1, 0)], ([((-2147483648), 2147483647)], []), [0], [], ([(some (0, 2, 1, 0), ([((-2147483648), 2147483647), ((-2147483648), 2147483647), (0, 7)], []), [0], [(0, (0, 0, 0, 2), (0, 3, 1, 0))])], [(0, 2), (1, 9), (1, 12), (1, 14), (1, 17), (1, 18)]))
def gn_H33 : List tk_Hd := []
theorem gn_33 (hU : gm_U tw) (hxt : tk_xtok xt) : tk_KS l D gk_cl gk_tbl gk_xw xt gk_MN gk_P gm_TY ro (gm_X tw) ads tw 7 gn_K33 := tk_contract (hk := tk_hk0) tk_hk0_ok (gm_xs hU) hxt gk_rok [207, 208, 253, 254, 256, 257, 263, 265, 266, 267, 283] 20000 3 0 (Ks := [gn_K14, gn_K32, gn_K12, gn_K30]) (d := 3) (List.forall_mem_cons.mpr ⟨tk_KS_up (by decide) (gn_14 hU hxt), (List.forall_mem_cons.mpr ⟨tk_KS_up (by decide) (gn_32 hU hxt), (List.forall_mem_cons.mpr ⟨tk_KS_up (by decide) (gn_12 hU hxt), (List.forall_mem_cons.mpr ⟨tk_KS_up (by decide) (gn_30 hU hxt), (fun _ h => absurd h List.not_mem_nil)⟩)⟩)⟩)⟩) (Hs := gn_H33) (by decide +kernel) rfl
end GN6
end MG13_1
