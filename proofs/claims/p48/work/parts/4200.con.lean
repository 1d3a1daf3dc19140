section GC0
variable {l : Launch} {D : va_G} {xt : tk_XT} {ro : Nat → Nat → Int → Prop} {ads tw : List Nat}
/-- GooseIce.status -/
def gc_K0 : tk_K := (127, [(2, 0, 0, 0)], ([], []), [0], [], ([(some (0, 1, 1, 0), ([(0, 9)], []), [0], [])], []))
def gc_H0 : List tk_Hd := []
theorem gc_0 (hU : gc_U tw) (hxt : tk_xtok xt) : tk_KS l D gk_cl gk_tbl gk_xw xt gk_MN gk_P gc_TY ro (gc_X tw) ads tw 1 gc_K0 := tk_contract (hk := tk_hk0) tk_hk0_ok (gc_xs hU) hxt gk_rok [] 9000 0 0 (Ks := []) (d := 0) (fun _ h => absurd h List.not_mem_nil) (Hs := gc_H0) (by decide +kernel) rfl
/-- GooseIce.top -/
def gc_K1 : tk_K := (128, [(2, 0, 0, 0)], ([], []), [0], [], ([(some (1, 1, 1, 0), ([((-9223372036854775808), 9223372036854775807)], []), [0], [])], []))
def gc_H1 : List tk_Hd := []
theorem gc_1 (hU : gc_U tw) (hxt : tk_xtok xt) : tk_KS l D gk_cl gk_tbl gk_xw xt gk_MN gk_P gc_TY ro (gc_X tw) ads tw 1 gc_K1 := tk_contract (hk := tk_hk0) tk_hk0_ok (gc_xs hU) hxt gk_rok [] 9000 0 0 (Ks := []) (d := 0) (fun _ h => absurd h List.not_mem_nil) (Hs := gc_H1) (by decide +kernel) rfl
/-- GooseIce.bottom -/
def gc_K2 : tk_K := (129, [(2, 0, 0, 0)], ([], []), [0], [], ([(some (1, 1, 1, 0), ([((-9223372036854775808), 9223372036854775807)], []), [0], [])], []))
def gc_H2 : List tk_Hd := []
theorem gc_2 (hU : gc_U tw) (hxt : tk_xtok xt) : tk_KS l D gk_cl gk_tbl gk_xw xt gk_MN gk_P gc_TY ro (gc_X tw) ads tw 1 gc_K2 := tk_contract (hk := tk_hk0) tk_hk0_ok (gc_xs hU) hxt gk_rok [] 9000 0 0 (Ks := []) (d := 0) (fun _ h => absurd h List.not_mem_nil) (Hs := gc_H2) (by decide +kernel) rfl
/-- java/util/Arrays.fill -/
def gc_K3 : tk_K := (387, [(2, 0, 0, 0), (1, 0, 0, 0)], ([], []), [2], [], ([(none, ([], []), [2], [])], [(2, 0)]))
def gc_H3 : List tk_Hd := [(6, [(0, (2, 0, 0, 0)), (1, (1, 0, 0, 0)), (3, (0, 1, 1, 0)), (4, (0, 0, 0, 60))], ([(0, 60)], []), [2], [], [(0, 0, (0, 0, 0, 0)), (1, 60, (0, 1, 1, 0)), (0, 0, (0, 0, 0, 0))])]
theorem gc_3 (hU : gc_U tw) (hxt : tk_xtok xt) : tk_KS l D gk_cl gk_tbl gk_xw xt gk_MN gk_P gc_TY ro (gc_X tw) ads tw 1 gc_K3 := tk_contract (hk := tk_hk0) tk_hk0_ok (gc_xs hU) hxt gk_rok [] 9000 0 3 (Ks := []) (d := 0) (fun _ h => absurd h List.not_mem_nil) (Hs := gc_H3) (by decide +kernel) rfl
/-- GooseIce.tray -/
def gc_K4 : tk_K := (130, [(2, 0, 0, 0), (0, 1, 1, 0), (0, 2, 1, 0), (0, 3, 1, 0)], ([((-2147483648), 2147483647), ((-2147483648), 2147483647), ((-2147483648), 2147483647)], []), [0], [], ([(some (0, 0, 0, 0), ([((-2147483648), 2147483647), ((-2147483648), 2147483647), ((-2147483648), 2147483647)], []), [0], [(0, (0, 0, 0, 0), (0, 0, 0, 1))]), (some (0, 0, 0, 1), ([(0, 3), (0, 3), (0, 60)], []), [0], [(0, (0, 0, 0, 0), (0, 0, 0, 0))])], [(0, 0), (2, 0), (3, 0), (4, 0)]))
def gc_H4 : List tk_Hd := []
theorem gc_4 (hU : gc_U tw) (hxt : tk_xtok xt) : tk_KS l D gk_cl gk_tbl gk_xw xt gk_MN gk_P gc_TY ro (gc_X tw) ads tw 3 gc_K4 := tk_contract (hk := tk_hk0) tk_hk0_ok (gc_xs hU) hxt gk_rok [188, 189, 191] 9000 1 0 (Ks := [gc_K3]) (d := 1) (List.forall_mem_cons.mpr ⟨tk_KS_up (by decide) (gc_3 hU hxt), (fun _ h => absurd h List.not_mem_nil)⟩) (Hs := gc_H4) (by decide +kernel) rfl
/-- GooseIce.write -/
def gc_K5 : tk_K := (131, [(2, 0, 0, 0), (0, 1, 1, 0), (0, 2, 1, 0), (1, 3, 1, 0)], ([((-2147483648), 2147483647), ((-2147483648), 2147483647), ((-9223372036854775808), 9223372036854775807)], []), [0], [], ([(some (0, 0, 0, 0), ([((-2147483648), 2147483647), ((-2147483648), 2147483647), ((-9223372036854775808), 9223372036854775807), (1, 3)], []), [0], [(0, (0, 0, 0, 0), (0, 4, 1, 0))]), (some (0, 0, 0, 1), ([(0, 3), (0, 59), ((-9223372036854775808), 9223372036854775807)], []), [0], [(0, (0, 0, 0, 0), (0, 0, 0, 0))])], [(0, 0), (2, 0)]))
def gc_H5 : List tk_Hd := []
theorem gc_5 (hU : gc_U tw) (hxt : tk_xtok xt) : tk_KS l D gk_cl gk_tbl gk_xw xt gk_MN gk_P gc_TY ro (gc_X tw) ads tw 3 gc_K5 := tk_contract (hk := tk_hk0) tk_hk0_ok (gc_xs hU) hxt gk_rok [188, 189, 191, 192, 193] 9000 2 0 (Ks := []) (d := 0) (fun _ h => absurd h List.not_mem_nil) (Hs := gc_H5) (by decide +kernel) rfl
/-- GooseIce.read -/
def gc_K6 : tk_K := (132, [(2, 0, 0, 0), (0, 1, 1, 0), (0, 2, 1, 0)], ([((-2147483648), 2147483647), ((-2147483648), 2147483647)], []), [0], [], ([(some (1, 3, 1, 0), ([((-2147483648), 2147483647), ((-2147483648), 2147483647), ((-9223372036854775808), 9223372036854775807), (0, 3)], []), [0], [(0, (0, 0, 0, 0), (0, 4, 1, 0))])], [(0, 0)]))
def gc_H6 : List tk_Hd := []
theorem gc_6 (hU : gc_U tw) (hxt : tk_xtok xt) : tk_KS l D gk_cl gk_tbl gk_xw xt gk_MN gk_P gc_TY ro (gc_X tw) ads tw 3 gc_K6 := tk_contract (hk := tk_hk0) tk_hk0_ok (gc_xs hU) hxt gk_rok [187, 191, 192] 9000 2 0 (Ks := []) (d := 0) (fun _ h => absurd h List.not_mem_nil) (Hs := gc_H6) (by decide +kernel) rfl
end GC0
