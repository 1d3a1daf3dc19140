section GN10
variable {l : Launch} {D : va_G} {xt : tk_XT} {ro : Nat → Nat → Int → Prop} {ads tw : List Nat}
/-- GooseIceModel.triedAt -/
def gn_K48 : tk_K := (345, [(2, 0, 0, 0), (0, 1, 1, 0), (0, 2, 1, 0), (0, 3, 1, 0)], ([(0, 60), (1, 6), (1, 60)], []), [0], [], ([(some (0, 4, 1, 0), ([(0, 60), (1, 6), (1, 60), (1, 1000001)], []), [0], [])], []))
def gn_H48 : List tk_Hd := []
theorem gn_48 (hU : gm_U tw) (hxt : tk_xtok xt) : tk_KS l D gk_cl gk_tbl gk_xw xt gk_MN gk_P gm_TY ro (gm_X tw) ads tw 1 gn_K48 := tk_contract (hk := tk_hk0) tk_hk0_ok (gm_xs hU) hxt gk_rok [] 20000 0 0 (Ks := []) (d := 0) (fun _ h => absurd h List.not_mem_nil) (Hs := gn_H48) (by decide +kernel) rfl
/-- GooseIceModel.trialsOf -/
def gn_K49 : tk_K := (344, [(2, 0, 0, 0), (0, 1, 1, 0), (0, 2, 1, 0)], ([(0, 60), (1, 6)], []), [0], [], ([(some (0, 3, 1, 0), ([(0, 60), (1, 6), (0, 1000000)], []), [0], [])], [(15, 0)]))
def gn_H49 : List tk_Hd := [(2, [(0, (2, 0, 0, 0)), (1, (0, 1, 1, 0)), (2, (0, 2, 1, 0)), (3, (0, 3, 1, 0))], ([(0, 60), (1, 6), (0, 7)], []), [0], [], [(0, 0, (0, 0, 0, 0)), (1, 7, (0, 3, 1, 0)), (0, 1, (0, 0, 0, 0)), (0, 0, (0, 0, 0, 0)), (0, 0, (0, 0, 0, 0)), (0, 0, (0, 0, 0, 0)), (0, 0, (0, 0, 0, 0))]), (10, [(0, (2, 0, 0, 0)), (1, (0, 1, 1, 0)), (2, (0, 2, 1, 0)), (3, (0, 3, 1, 0)), (4, (0, 4, 1, 0))], ([(0, 60), (1, 6), (0, 6), (0, 61)], []), [0], [], [(0, 0, (0, 0, 0, 0)), (1, 7, (0, 3, 1, 0)), (0, 0, (0, 0, 0, 0)), (1, 61, (0, 4, 1, 0)), (0, 1, (0, 0, 0, 0)), (0, 0, (0, 0, 0, 0)), (0, 0, (0, 0, 0, 0))]), (43, [(0, (2, 0, 0, 0)), (1, (0, 1, 1, 0)), (2, (0, 2, 1, 0)), (3, (0, 3, 1, 0)), (4, (0, 4, 1, 0)), (5, (0, 5, 1, 0))], ([(0, 60), (1, 6), (0, 6), (0, 60), (1, 61)], []), [0], [], [(0, 0, (0, 0, 0, 0)), (1, 7, (0, 3, 1, 0)), (0, 0, (0, 0, 0, 0)), (1, 61, (0, 4, 1, 0)), (0, 0, (0, 0, 0, 0)), (1, 61, (0, 5, 1, 0)), (0, 0, (0, 0, 0, 0))])]
theorem gn_49 (hU : gm_U tw) (hxt : tk_xtok xt) : tk_KS l D gk_cl gk_tbl gk_xw xt gk_MN gk_P gm_TY ro (gm_X tw) ads tw 2 gn_K49 := tk_contract (hk := tk_hk0) tk_hk0_ok (gm_xs hU) hxt gk_rok [] 20000 0 7 (Ks := [gn_K48]) (d := 1) (List.forall_mem_cons.mpr ⟨tk_KS_up (by decide) (gn_48 hU hxt), (fun _ h => absurd h List.not_mem_nil)⟩) (Hs := gn_H49) (by decide +kernel) rfl
/-- GooseIceModel.trials -/
def gn_K50 : tk_K := (347, [(2, 0, 0, 0), (0, 1, 1, 0), (0, 2, 1, 0)], ([((-2147483648), 2147483647), ((-2147483648), 2147483647)], []), [0], [], ([(some (0, 3, 1, 0), ([((-2147483648), 2147483647), ((-2147483648), 2147483647), ((-1), 1000000), (0, 1)], []), [0], [(0, (0, 0, 0, 2), (0, 4, 1, 0))])], [(0, 2), (15, 0)]))
def gn_H50 : List tk_Hd := []
theorem gn_50 (hU : gm_U tw) (hxt : tk_xtok xt) : tk_KS l D gk_cl gk_tbl gk_xw xt gk_MN gk_P gm_TY ro (gm_X tw) ads tw 5 gn_K50 := tk_contract (hk := tk_hk0) tk_hk0_ok (gm_xs hU) hxt gk_rok [207, 208, 218, 346] 20000 2 0 (Ks := [gn_K48, gn_K49]) (d := 2) (List.forall_mem_cons.mpr ⟨tk_KS_up (by decide) (gn_48 hU hxt), (List.forall_mem_cons.mpr ⟨tk_KS_up (by decide) (gn_49 hU hxt), (fun _ h => absurd h List.not_mem_nil)⟩)⟩) (Hs := gn_H50) (by decide +kernel) rfl
/-- GooseIceModel.lived -/
def gn_K51 : tk_K := (367, [(2, 0, 0, 0), (0, 1, 1, 0)], ([((-2147483648), 2147483647)], []), [0], [], ([(some (0, 2, 1, 0), ([((-2147483648), 2147483647), ((-2147483648), 2147483647), (0, 6)], []), [0], [(0, (0, 0, 0, 2), (0, 3, 1, 0))])], [(0, 2)]))
def gn_H51 : List tk_Hd := []
theorem gn_51 (hU : gm_U tw) (hxt : tk_xtok xt) : tk_KS l D gk_cl gk_tbl gk_xw xt gk_MN gk_P gm_TY ro (gm_X tw) ads tw 2 gn_K51 := tk_contract (hk := tk_hk0) tk_hk0_ok (gm_xs hU) hxt gk_rok [207, 208] 20000 1 0 (Ks := []) (d := 0) (fun _ h => absurd h List.not_mem_nil) (Hs := gn_H51) (by decide +kernel) rfl
end GN10
