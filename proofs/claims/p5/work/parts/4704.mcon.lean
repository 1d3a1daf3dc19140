section GM4
variable {l : Launch} {D : va_G} {xt : tk_XT} {ro : Nat → Nat → Int → Prop} {ads tw : List Nat}
/-- GooseIceModel.wrongTray -/
def gm_K29 : tk_K := (287, [(2, 0, 0, 0), (0, 1, 1, 0), (0, 0, 0, 17), (0, 0, 0, 20)], ([((-2147483648), 2147483647)], []), [0], [], ([(some (0, 0, 0, 0), ([(0, 3)], []), [0], []), (some (0, 0, 0, 1), ([((-2147483648), 2147483647)], []), [0], []), (some (0, 0, 0, 2), ([(0, 3)], []), [0], []), (some (0, 0, 0, 3), ([(0, 3)], []), [0], []), (some (0, 0, 0, 5), ([(0, 3)], []), [0], [])], []))
def gm_H29 : List tk_Hd := []
theorem gm_29 (hU : gm_U tw) (hxt : tk_xtok xt) : tk_KS l D gk_cl gk_tbl gk_xw xt gk_MN gk_P gm_TY ro (gm_X tw) ads tw 3 gm_K29 := tk_contract (hk := tk_hk0) tk_hk0_ok (gm_xs hU) hxt gk_rok [211, 218] 20000 1 0 (Ks := [gm_K14]) (d := 1) (List.forall_mem_cons.mpr ⟨tk_KS_up (by decide) (gm_14 hU hxt), (fun _ h => absurd h List.not_mem_nil)⟩) (Hs := gm_H29) (by decide +kernel) rfl
/-- GooseIceModel.wrongTray -/
def gm_K30 : tk_K := (287, [(2, 0, 0, 0), (0, 1, 1, 0), (0, 0, 0, 16), (0, 0, 0, 20)], ([((-2147483648), 2147483647)], []), [0], [], ([(some (0, 0, 0, 0), ([(0, 3)], []), [0], []), (some (0, 0, 0, 1), ([((-2147483648), 2147483647)], []), [0], []), (some (0, 0, 0, 2), ([(0, 3)], []), [0], []), (some (0, 0, 0, 3), ([(0, 3)], []), [0], []), (some (0, 0, 0, 5), ([(0, 3)], []), [0], [])], []))
def gm_H30 : List tk_Hd := []
theorem gm_30 (hU : gm_U tw) (hxt : tk_xtok xt) : tk_KS l D gk_cl gk_tbl gk_xw xt gk_MN gk_P gm_TY ro (gm_X tw) ads tw 3 gm_K30 := tk_contract (hk := tk_hk0) tk_hk0_ok (gm_xs hU) hxt gk_rok [211, 218] 20000 1 0 (Ks := [gm_K14]) (d := 1) (List.forall_mem_cons.mpr ⟨tk_KS_up (by decide) (gm_14 hU hxt), (fun _ h => absurd h List.not_mem_nil)⟩) (Hs := gm_H30) (by decide +kernel) rfl
/-- GooseIceModel.wrongTray -/
def gm_K31 : tk_K := (287, [(2, 0, 0, 0), (0, 1, 1, 0), (0, 0, 0, 15), (0, 0, 0, 20)], ([((-2147483648), 2147483647)], []), [0], [], ([(some (0, 0, 0, 0), ([(0, 3)], []), [0], []), (some (0, 0, 0, 1), ([((-2147483648), 2147483647)], []), [0], []), (some (0, 0, 0, 2), ([(0, 3)], []), [0], []), (some (0, 0, 0, 3), ([(0, 3)], []), [0], []), (some (0, 0, 0, 5), ([(0, 3)], []), [0], [])], []))
def gm_H31 : List tk_Hd := []
theorem gm_31 (hU : gm_U tw) (hxt : tk_xtok xt) : tk_KS l D gk_cl gk_tbl gk_xw xt gk_MN gk_P gm_TY ro (gm_X tw) ads tw 3 gm_K31 := tk_contract (hk := tk_hk0) tk_hk0_ok (gm_xs hU) hxt gk_rok [211, 218] 20000 1 0 (Ks := [gm_K14]) (d := 1) (List.forall_mem_cons.mpr ⟨tk_KS_up (by decide) (gm_14 hU hxt), (fun _ h => absurd h List.not_mem_nil)⟩) (Hs := gm_H31) (by decide +kernel) rfl
/-- GooseIceModel.wrongTray -/
def gm_K32 : tk_K := (287, [(2, 0, 0, 0), (0, 1, 1, 0), (0, 0, 0, 14), (0, 0, 0, 20)], ([((-2147483648), 2147483647)], []), [0], [], ([(some (0, 0, 0, 0), ([(0, 3)], []), [0], []), (some (0, 0, 0, 1), ([((-2147483648), 2147483647)], []), [0], []), (some (0, 0, 0, 2), ([(0, 3)], []), [0], []), (some (0, 0, 0, 3), ([(0, 3)], []), [0], []), (some (0, 0, 0, 5), ([(0, 3)], []), [0], [])], []))
def gm_H32 : List tk_Hd := []
theorem gm_32 (hU : gm_U tw) (hxt : tk_xtok xt) : tk_KS l D gk_cl gk_tbl gk_xw xt gk_MN gk_P gm_TY ro (gm_X tw) ads tw 3 gm_K32 := tk_contract (hk := tk_hk0) tk_hk0_ok (gm_xs hU) hxt gk_rok [211, 218] 20000 1 0 (Ks := [gm_K14]) (d := 1) (List.forall_mem_cons.mpr ⟨tk_KS_up (by decide) (gm_14 hU hxt), (fun _ h => absurd h List.not_mem_nil)⟩) (Hs := gm_H32) (by decide +kernel) rfl
/-- GooseIceModel.wrongTray -/
def gm_K33 : tk_K := (287, [(2, 0, 0, 0), (0, 1, 1, 0), (0, 0, 0, 13), (0, 0, 0, 20)], ([((-2147483648), 2147483647)], []), [0], [], ([(some (0, 0, 0, 0), ([(0, 3)], []), [0], []), (some (0, 0, 0, 1), ([((-2147483648), 2147483647)], []), [0], []), (some (0, 0, 0, 2), ([(0, 3)], []), [0], []), (some (0, 0, 0, 3), ([(0, 3)], []), [0], []), (some (0, 0, 0, 5), ([(0, 3)], []), [0], [])], []))
def gm_H33 : List tk_Hd := []
theorem gm_33 (hU : gm_U tw) (hxt : tk_xtok xt) : tk_KS l D gk_cl gk_tbl gk_xw xt gk_MN gk_P gm_TY ro (gm_X tw) ads tw 3 gm_K33 := tk_contract (hk := tk_hk0) tk_hk0_ok (gm_xs hU) hxt gk_rok [211, 218] 20000 1 0 (Ks := [gm_K14]) (d := 1) (List.forall_mem_cons.mpr ⟨tk_KS_up (by decide) (gm_14 hU hxt), (fun _ h => absurd h List.not_mem_nil)⟩) (Hs := gm_H33) (by decide +kernel) rfl
/-- GooseIceModel.wrongTray -/
def gm_K34 : tk_K := (287, [(2, 0, 0, 0), (0, 1, 1, 0), (0, 0, 0, 12), (0, 2, 1, 0)], ([((-2147483648), 2147483647), (12, 20)], []), [0], [], ([(some (0, 0, 0, 0), ([(0, 3), (12, 20)], []), [0], []), (some (0, 0, 0, 1), ([((-2147483648), 2147483647), (12, 20)], []), [0], []), (some (0, 0, 0, 2), ([(0, 3), (12, 20)], []), [0], []), (some (0, 0, 0, 3), ([(0, 3), (12, 20)], []), [0], []), (some (0, 0, 0, 5), ([(0, 3), (12, 20)], []), [0], [])], []))
def gm_H34 : List tk_Hd := []
theorem gm_34 (hU : gm_U tw) (hxt : tk_xtok xt) : tk_KS l D gk_cl gk_tbl gk_xw xt gk_MN gk_P gm_TY ro (gm_X tw) ads tw 3 gm_K34 := tk_contract (hk := tk_hk0) tk_hk0_ok (gm_xs hU) hxt gk_rok [211, 218] 20000 1 0 (Ks := [gm_K14]) (d := 1) (List.forall_mem_cons.mpr ⟨tk_KS_up (by decide) (gm_14 hU hxt), (fun _ h => absurd h List.not_mem_nil)⟩) (Hs := gm_H34) (by decide +kernel) rfl
end GM4
