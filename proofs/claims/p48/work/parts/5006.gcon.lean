section GN6
variable {l : Launch} {D : va_G} {xt : tk_XT} {ro : Nat → Nat → Int → Prop} {ads tw : List Nat}
/-- GooseIceModel.melt -/
def gn_K33 : tk_K := (299, [(2, 0, 0, 0), (0, 1, 1, 0)], ([((-2147483648), 2147483647)], []), [0], [], ([(some (0, 2, 1, 0), ([((-2147483648), 2147483647), ((-2147483648), 2147483647), (0, 7)], []), [0], [(0, (0, 0, 0, 2), (0, 3, 1, 0))])], [(0, 2), (1, 9), (1, 12), (1, 14), (1, 17), (1, 18)]))
def gn_H33 : List tk_Hd := []
theorem gn_33 (hU : gm_U tw) (hxt : tk_xtok xt) : tk_KS l D gk_cl gk_tbl gk_xw xt gk_MN gk_P gm_TY ro (gm_X tw) ads tw 7 gn_K33 := tk_contract (hk := tk_hk0) tk_hk0_ok (gm_xs hU) hxt gk_rok [207, 208, 253, 254, 256, 257, 263, 265, 266, 267, 283] 20000 3 0 (Ks := [gn_K14, gn_K32, gn_K12, gn_K30]) (d := 3) (List.forall_mem_cons.mpr ⟨tk_KS_up (by decide) (gn_14 hU hxt), (List.forall_mem_cons.mpr ⟨tk_KS_up (by decide) (gn_32 hU hxt), (List.forall_mem_cons.mpr ⟨tk_KS_up (by decide) (gn_12 hU hxt), (List.forall_mem_cons.mpr ⟨tk_KS_up (by decide) (gn_30 hU hxt), (fun _ h => absurd h List.not_mem_nil)⟩)⟩)⟩)⟩) (Hs := gn_H33) (by decide +kernel) rfl
end GN6
