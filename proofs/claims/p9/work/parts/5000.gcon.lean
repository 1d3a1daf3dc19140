section GN0
variable {l : Launch} {D : va_G} {xt : tk_XT} {ro : Nat → Nat → Int → Prop} {ads tw : List Nat}
/-- GooseIceModel.status -/
def gn_K0 : tk_K := (203, [(2, 0, 0, 0)], ([], []), [0], [], ([(some (0, 1, 1, 0), ([(0, 9)], []), [0], [])], []))
def gn_H0 : List tk_Hd := []
theorem gn_0 (hU : gm_U tw) (hxt : tk_xtok xt) : tk_KS l D gk_cl gk_tbl gk_xw xt gk_MN gk_P gm_TY ro (gm_X tw) ads tw 1 gn_K0 := tk_contract (hk := tk_hk0) tk_hk0_ok (gm_xs hU) hxt gk_rok [] 20000 0 0 (Ks := []) (d := 0) (fun _ h => absurd h List.not_mem_nil) (Hs := gn_H0) (by decide +kernel) rfl
/-- GooseIceModel.top -/
def gn_K1 : tk_K := (204, [(2, 0, 0, 0)], ([], []), [0], [], ([(some (1, 1, 1, 0), ([((-9223372036854775808), 9223372036854775807)], []), [0], [])], []))
def gn_H1 : List tk_Hd := []
theorem gn_1 (hU : gm_U tw) (hxt : tk_xtok xt) : tk_KS l D gk_cl gk_tbl gk_xw xt gk_MN gk_P gm_TY ro (gm_X tw) ads tw 1 gn_K1 := tk_contract (hk := tk_hk0) tk_hk0_ok (gm_xs hU) hxt gk_rok [] 20000 0 0 (Ks := []) (d := 0) (fun _ h => absurd h List.not_mem_nil) (Hs := gn_H1) (by decide +kernel) rfl
/-- GooseIceModel.bottom -/
def gn_K2 : tk_K := (205, [(2, 0, 0, 0)], ([], []), [0], [], ([(some (1, 1, 1, 0), ([((-9223372036854775808), 9223372036854775807)], []), [0], [])], []))
def gn_H2 : List tk_Hd := []
theorem gn_2 (hU : gm_U tw) (hxt : tk_xtok xt) : tk_KS l D gk_cl gk_tbl gk_xw xt gk_MN gk_P gm_TY ro (gm_X tw) ads tw 1 gn_K2 := tk_contract (hk := tk_hk0) tk_hk0_ok (gm_xs hU) hxt gk_rok [] 20000 0 0 (Ks := []) (d := 0) (fun _ h => absurd h List.not_mem_nil) (Hs := gn_H2) (by decide +kernel) rfl
/-- GooseIceModel.tray -/
def gn_K3 : tk_K := (213, [(2, 0, 0, 0), (0, 1, 1, 0), (0, 2, 1, 0), (0, 3, 1, 0)], ([((-2147483648), 2147483647), ((-2147483648), 2147483647), ((-2147483648), 2147483647)], []), [0], [], ([(some (0, 0, 0, 0), ([((-2147483648), 2147483647), ((-2147483648), 2147483647), ((-2147483648), 2147483647)], []), [0], [(0, (0, 0, 0, 2), (0, 0, 0, 1))]), (some (0, 0, 0, 1), ([(0, 3), (0, 3), (0, 60)], []), [0], [(0, (0, 0, 0, 2), (0, 0, 0, 0))])], [(0, 2), (3, 0), (4, 0), (5, 0)]))
def gn_H3 : List tk_Hd := [(49, [(0, (2, 0, 0, 0)), (1, (0, 1, 1, 0)), (2, (0, 2, 1, 0)), (3, (0, 3, 1, 0)), (4, (0, 4, 1, 0))], ([(0, 3), (0, 3), (0, 60), (0, 60)], []), [0], [], [(0, 0, (0, 0, 0, 0)), (1, 60, (0, 4, 1, 0)), (0, 0, (0, 0, 0, 0))])]
theorem gn_3 (hU : gm_U tw) (hxt : tk_xtok xt) : tk_KS l D gk_cl gk_tbl gk_xw xt gk_MN gk_P gm_TY ro (gm_X tw) ads tw 2 gn_K3 := tk_contract (hk := tk_hk0) tk_hk0_ok (gm_xs hU) hxt gk_rok [206, 211] 20000 1 3 (Ks := []) (d := 0) (fun _ h => absurd h List.not_mem_nil) (Hs := gn_H3) (by decide +kernel) rfl
/-- GooseIceModel.wrongPlace -/
def gn_K4 : tk_K := (214, [(2, 0, 0, 0), (0, 1, 1, 0), (0, 2, 1, 0)], ([((-2147483648), 2147483647), ((-2147483648), 2147483647)], []), [0], [], ([(some (0, 0, 0, 0), ([(0, 3), (0, 59)], []), [0], []), (some (0, 0, 0, 1), ([((-2147483648), 2147483647), ((-2147483648), 2147483647)], []), [0], []), (some (0, 0, 0, 2), ([(0, 3), ((-2147483648), 2147483647)], []), [0], []), (some (0, 0, 0, 3), ([(0, 3), ((-2147483648), 2147483647)], []), [0], [])], []))
def gn_H4 : List tk_Hd := []
theorem gn_4 (hU : gm_U tw) (hxt : tk_xtok xt) : tk_KS l D gk_cl gk_tbl gk_xw xt gk_MN gk_P gm_TY ro (gm_X tw) ads tw 2 gn_K4 := tk_contract (hk := tk_hk0) tk_hk0_ok (gm_xs hU) hxt gk_rok [211] 20000 1 0 (Ks := []) (d := 0) (fun _ h => absurd h List.not_mem_nil) (Hs := gn_H4) (by decide +kernel) rfl
/-- GooseIceModel.narrowed -/
def gn_K5 : tk_K := (212, [(1, 1, 1, 0), (0, 2, 1, 0)], ([((-9223372036854775808), 9223372036854775807), (0, 3)], []), [], [], ([(some (1, 3, 1, 0), ([((-9223372036854775808), 9223372036854775807), (0, 3), ((-9223372036854775808), 9223372036854775807)], []), [], [])], []))
def gn_H5 : List tk_Hd := []
theorem gn_5 (hU : gm_U tw) (hxt : tk_xtok xt) : tk_KS l D gk_cl gk_tbl gk_xw xt gk_MN gk_P gm_TY ro (gm_X tw) ads tw 1 gn_K5 := tk_contract (hk := tk_hk0) tk_hk0_ok (gm_xs hU) hxt gk_rok [] 20000 0 0 (Ks := []) (d := 0) (fun _ h => absurd h List.not_mem_nil) (Hs := gn_H5) (by decide +kernel) rfl
/-- GooseIceModel.write -/
def gn_K6 : tk_K := (215, [(2, 0, 0, 0), (0, 1, 1, 0), (0, 2, 1, 0), (1, 3, 1, 0)], ([((-2147483648), 2147483647), ((-2147483648), 2147483647), ((-9223372036854775808), 9223372036854775807)], []), [0], [], ([(some (0, 0, 0, 0), ([((-2147483648), 2147483647), ((-2147483648), 2147483647), ((-9223372036854775808), 9223372036854775807), (1, 3)], []), [0], [(0, (0, 0, 0, 2), (0, 4, 1, 0))]), (some (0, 0, 0, 1), ([(0, 3), (0, 59), ((-9223372036854775808), 9223372036854775807)], []), [0], [(0, (0, 0, 0, 2), (0, 0, 0, 0))])], [(0, 2), (5, 0)]))
def gn_H6 : List tk_Hd := []
theorem gn_6 (hU : gm_U tw) (hxt : tk_xtok xt) : tk_KS l D gk_cl gk_tbl gk_xw xt gk_MN gk_P gm_TY ro (gm_X tw) ads tw 4 gn_K6 := tk_contract (hk := tk_hk0) tk_hk0_ok (gm_xs hU) hxt gk_rok [206] 20000 1 0 (Ks := [gn_K4, gn_K5]) (d := 2) (List.forall_mem_cons.mpr ⟨tk_KS_up (by decide) (gn_4 hU hxt), (List.forall_mem_cons.mpr ⟨tk_KS_up (by decide) (gn_5 hU hxt), (fun _ h => absurd h List.not_mem_nil)⟩)⟩) (Hs := gn_H6) (by decide +kernel) rfl
/-- GooseIceModel.read -/
def gn_K7 : tk_K := (216, [(2, 0, 0, 0), (0, 1, 1, 0), (0, 2, 1, 0)], ([((-2147483648), 2147483647), ((-2147483648), 2147483647)], []), [0], [], ([(some (1, 3, 1, 0), ([((-2147483648), 2147483647), ((-2147483648), 2147483647), ((-9223372036854775808), 9223372036854775807), (0, 3)], []), [0], [(0, (0, 0, 0, 2), (0, 4, 1, 0))])], [(0, 2)]))
def gn_H7 : List tk_Hd := []
theorem gn_7 (hU : gm_U tw) (hxt : tk_xtok xt) : tk_KS l D gk_cl gk_tbl gk_xw xt gk_MN gk_P gm_TY ro (gm_X tw) ads tw 3 gn_K7 := tk_contract (hk := tk_hk0) tk_hk0_ok (gm_xs hU) hxt gk_rok [] 20000 0 0 (Ks := [gn_K4]) (d := 2) (List.forall_mem_cons.mpr ⟨tk_KS_up (by decide) (gn_4 hU hxt), (fun _ h => absurd h List.not_mem_nil)⟩) (Hs := gn_H7) (by decide +kernel) rfl
end GN0
