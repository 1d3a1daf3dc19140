section GM44
variable {l : Launch} {D : va_G} {xt : tk_XT} {ro : Nat → Nat → Int → Prop} {ads tw : List Nat}
/-- GooseIceModel.sets -/
def gm_K286 : tk_K := (288, [(2, 0, 0, 0), (0, 1, 1, 0), (0, 0, 0, 0), (0, 0, 0, 2)], ([(0, 7), (0, 9), (0, 9)], []), [0, 5], [(0, (0, 0, 0, 7), (2, 1, 0, 0)), (1, (0, 0, 0, 0), (1, 2, 1, 0)), (1, (0, 0, 0, 1), (1, 3, 1, 0))], ([(none, ([(0, 7), (0, 9), (0, 9)], []), [0, 5], [(1, (0, 0, 0, 0), (1, 2, 1, 0)), (1, (0, 0, 0, 1), (1, 3, 1, 0))])], [(1, 18), (1, 20)]))
def gm_H286 : List tk_Hd := []
theorem gm_286 (hU : gm_U tw) (hxt : tk_xtok xt) : tk_KS l D gk_cl gk_tbl gk_xw xt gk_MN gk_P gm_TY ro (gm_X tw) ads tw 2 gm_K286 := tk_contract (hk := tk_hk0) tk_hk0_ok (gm_xs hU) hxt gk_rok [254] 20000 1 0 (Ks := []) (d := 0) (fun _ h => absurd h List.not_mem_nil) (Hs := gm_H286) (by decide +kernel) rfl
/-- GooseIceModel.wrongTray -/
def gm_K287 : tk_K := (287, [(2, 0, 0, 0), (0, 0, 0, 0), (0, 0, 0, 1), (0, 1, 1, 0)], ([(12, 20), ((-9223372036854775808), 9223372036854775807)], []), [0, 5], [(0, (0, 0, 0, 7), (2, 1, 0, 0)), (1, (0, 0, 0, 0), (1, 2, 1, 0))], ([(some (0, 0, 0, 0), ([(12, 20), (0, 9)], []), [0, 5], [(1, (0, 0, 0, 0), (1, 2, 1, 0))]), (some (0, 0, 0, 2), ([(12, 20), ((-9223372036854775808), 9223372036854775807)], []), [0, 5], [(1, (0, 0, 0, 0), (1, 2, 1, 0))]), (some (0, 0, 0, 3), ([(12, 20), ((-9223372036854775808), 9223372036854775807)], []), [0, 5], [(1, (0, 0, 0, 0), (1, 2, 1, 0))]), (some (0, 0, 0, 5), ([(12, 20), ((-9223372036854775808), 9223372036854775807)], []), [0, 5], [(1, (0, 0, 0, 0), (1, 2, 1, 0))])], []))
def gm_H287 : List tk_Hd := []
theorem gm_287 (hU : gm_U tw) (hxt : tk_xtok xt) : tk_KS l D gk_cl gk_tbl gk_xw xt gk_MN gk_P gm_TY ro (gm_X tw) ads tw 3 gm_K287 := tk_contract (hk := tk_hk0) tk_hk0_ok (gm_xs hU) hxt gk_rok [211, 218] 20000 1 0 (Ks := [gm_K14]) (d := 1) (List.forall_mem_cons.mpr ⟨tk_KS_up (by decide) (gm_14 hU hxt), (fun _ h => absurd h List.not_mem_nil)⟩) (Hs := gm_H287) (by decide +kernel) rfl
/-- GooseIceModel.isRoute -/
def gm_K288 : tk_K := (286, [(2, 0, 0, 0), (0, 1, 1, 0), (0, 0, 0, 0), (0, 0, 0, 1)], ([((-1), 9), (0, 9)], []), [0, 5], [(0, (0, 0, 0, 7), (2, 1, 0, 0)), (1, (0, 0, 0, 0), (1, 2, 1, 0))], ([(some (0, 0, 0, 0), ([((-1), 9), (0, 9)], []), [0, 5], [(1, (0, 0, 0, 0), (1, 2, 1, 0))]), (some (0, 0, 0, 1), ([((-1), 9), (0, 9)], []), [0, 5], [(1, (0, 0, 0, 0), (1, 2, 1, 0))])], []))
def gm_H288 : List tk_Hd := []
theorem gm_288 (hU : gm_U tw) (hxt : tk_xtok xt) : tk_KS l D gk_cl gk_tbl gk_xw xt gk_MN gk_P gm_TY ro (gm_X tw) ads tw 3 gm_K288 := tk_contract (hk := tk_hk0) tk_hk0_ok (gm_xs hU) hxt gk_rok [253, 260, 262] 20000 2 0 (Ks := []) (d := 0) (fun _ h => absurd h List.not_mem_nil) (Hs := gm_H288) (by decide +kernel) rfl
/-- GooseIceModel.sets -/
def gm_K289 : tk_K := (288, [(2, 0, 0, 0), (0, 1, 1, 0), (0, 0, 0, 0), (0, 0, 0, 1)], ([(0, 7), (0, 9)], []), [0, 5], [(0, (0, 0, 0, 7), (2, 1, 0, 0)), (1, (0, 0, 0, 0), (1, 2, 1, 0))], ([(none, ([(0, 7), (0, 9)], []), [0, 5], [(1, (0, 0, 0, 0), (1, 2, 1, 0))])], [(1, 18), (1, 20)]))
def gm_H289 : List tk_Hd := []
theorem gm_289 (hU : gm_U tw) (hxt : tk_xtok xt) : tk_KS l D gk_cl gk_tbl gk_xw xt gk_MN gk_P gm_TY ro (gm_X tw) ads tw 2 gm_K289 := tk_contract (hk := tk_hk0) tk_hk0_ok (gm_xs hU) hxt gk_rok [254] 20000 1 0 (Ks := []) (d := 0) (fun _ h => absurd h List.not_mem_nil) (Hs := gm_H289) (by decide +kernel) rfl
end GM44
