section GN8
variable {l : Launch} {D : va_G} {xt : tk_XT} {ro : Nat → Nat → Int → Prop} {ads tw : List Nat}
/-- GooseIceModel.half -/
def gn_K46 : tk_K := (342, [(2, 0, 0, 0), (0, 1, 1, 0)], ([((-2147483648), 2147483647)], []), [0], [], ([(some (0, 2, 1, 0), ([((-2147483648), 2147483647), ((-1), 255), (0, 1)], []), [0], [(0, (0, 0, 0, 2), (0, 3, 1, 0))])], [(0, 2)]))
def gn_H46 : List tk_Hd := []
theorem gn_46 (hU : gm_U tw) (hxt : tk_xtok xt) : tk_KS l D gk_cl gk_tbl gk_xw xt gk_MN gk_P gm_TY ro (gm_X tw) ads tw 7 gn_K46 := tk_contract (hk := tk_hk0) tk_hk0_ok (gm_xs hU) hxt gk_rok [207, 208, 339] 20000 1 0 (Ks := [gn_K42, gn_K43, gn_K44]) (d := 5) (List.forall_mem_cons.mpr ⟨tk_KS_up (by decide) (gn_42 hU hxt), (List.forall_mem_cons.mpr ⟨tk_KS_up (by decide) (gn_43 hU hxt), (List.forall_mem_cons.mpr ⟨tk_KS_up (by decide) (gn_44 hU hxt), (fun _ h => absurd h List.not_mem_nil)⟩)⟩)⟩) (Hs := gn_H46) (by decide +kernel) rfl
end GN8
