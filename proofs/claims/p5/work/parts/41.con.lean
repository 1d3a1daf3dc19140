section GC
variable {l : Launch} {D : va_G} {xt : tk_XT} {ro : Nat → Nat → Int → Prop} {X : va_W → Prop} {ads tw : List Nat}
/-- GooseIce.status -/
def gc_K0 : tk_K := (127, [(2, 0, 0, 0)], ([], []), [0], [], ([(some (0, 1, 1, 0), ([(0, 9)], []), [0], [])], []))
def gc_H0 : List tk_Hd := []
theorem gc_0 (hXs : tk_xs gc_TY X tw) (hxt : tk_xtok xt) : tk_KS l D gk_cl gk_tbl gk_xw xt gk_MN gk_P gc_TY ro X ads tw 1 gc_K0 := tk_contract (hk := tk_hk0) tk_hk0_ok hXs hxt gk_rok [] 5000 0 0 (Ks := []) (d := 0) (fun _ h => absurd h List.not_mem_nil) (Hs := gc_H0) (by decide +kernel) rfl
/-- GooseIce.top -/
def gc_K1 : tk_K := (128, [(2, 0, 0, 0)], ([], []), [0], [], ([(some (1, 1, 1, 0), ([((-9223372036854775808), 9223372036854775807)], []), [0], [])], []))
def gc_H1 : List tk_Hd := []
theorem gc_1 (hXs : tk_xs gc_TY X tw) (hxt : tk_xtok xt) : tk_KS l D gk_cl gk_tbl gk_xw xt gk_MN gk_P gc_TY ro X ads tw 1 gc_K1 := tk_contract (hk := tk_hk0) tk_hk0_ok hXs hxt gk_rok [] 5000 0 0 (Ks := []) (d := 0) (fun _ h => absurd h List.not_mem_nil) (Hs := gc_H1) (by decide +kernel) rfl
/-- GooseIce.bottom -/
def gc_K2 : tk_K := (129, [(2, 0, 0, 0)], ([], []), [0], [], ([(some (1, 1, 1, 0), ([((-9223372036854775808), 9223372036854775807)], []), [0], [])], []))
def gc_H2 : List tk_Hd := []
theorem gc_2 (hXs : tk_xs gc_TY X tw) (hxt : tk_xtok xt) : tk_KS l D gk_cl gk_tbl gk_xw xt gk_MN gk_P gc_TY ro X ads tw 1 gc_K2 := tk_contract (hk := tk_hk0) tk_hk0_ok hXs hxt gk_rok [] 5000 0 0 (Ks := []) (d := 0) (fun _ h => absurd h List.not_mem_nil) (Hs := gc_H2) (by decide +kernel) rfl
/-- java/util/Arrays.fill -/
def gc_K3 : tk_K := (387, [(2, 0, 0, 0), (1, 0, 0, 0)], ([], []), [2], [], ([(none, ([], []), [2], [])], [(2, 0)]))
def gc_H3 : List tk_Hd := [(6, [(0, (2, 0, 0, 0)), (1, (1, 0, 0, 0)), (3, (0, 1, 1, 0)), (4, (0, 0, 0, 60))], ([(0, 60)], []), [2], [], [(0, 0, (0, 0, 0, 0)), (1, 60, (0, 1, 1, 0)), (0, 0, (0, 0, 0, 0))])]
theorem gc_3 (hXs : tk_xs gc_TY X tw) (hxt : tk_xtok xt) : tk_KS l D gk_cl gk_tbl gk_xw xt gk_MN gk_P gc_TY ro X ads tw 1 gc_K3 := tk_contract (hk := tk_hk0) tk_hk0_ok hXs hxt gk_rok [] 5000 0 3 (Ks := []) (d := 0) (fun _ h => absurd h List.not_mem_nil) (Hs := gc_H3) (by decide +kernel) rfl
/-- GooseIce.tray -/
def gc_K4 : tk_K := (130, [(2, 0, 0, 0), (0, 1, 1, 0), (0, 2, 1, 0), (0, 3, 1, 0)], ([((-2147483648), 2147483647), ((-2147483648), 2147483647), ((-2147483648), 2147483647)], []), [0], [], ([(some (0, 0, 0, 0), ([((-2147483648), 2147483647), ((-2147483648), 2147483647), ((-2147483648), 2147483647)], []), [0], [(0, (0, 0, 0, 0), (0, 0, 0, 1))]), (some (0, 0, 0, 1), ([(0, 3), (0, 3), (0, 60)], []), [0], [(0, (0, 0, 0, 0), (0, 0, 0, 0))])], [(0, 0), (2, 0), (3, 0), (4, 0)]))
def gc_H4 : List tk_Hd := []
theorem gc_4 (hXs : tk_xs gc_TY X tw) (hxt : tk_xtok xt) : tk_KS l D gk_cl gk_tbl gk_xw xt gk_MN gk_P gc_TY ro X ads tw 3 gc_K4 := tk_contract (hk := tk_hk0) tk_hk0_ok hXs hxt gk_rok [188, 189, 191] 5000 1 0 (Ks := [gc_K3]) (d := 1) (List.forall_mem_cons.mpr ⟨tk_KS_up (by decide) (gc_3 hXs hxt), (fun _ h => absurd h List.not_mem_nil)⟩) (Hs := gc_H4) (by decide +kernel) rfl
/-- GooseIce.write -/
def gc_K5 : tk_K := (131, [(2, 0, 0, 0), (0, 1, 1, 0), (0, 2, 1, 0), (1, 3, 1, 0)], ([((-2147483648), 2147483647), ((-2147483648), 2147483647), ((-9223372036854775808), 9223372036854775807)], []), [0], [], ([(some (0, 0, 0, 0), ([((-2147483648), 2147483647), ((-2147483648), 2147483647), ((-9223372036854775808), 9223372036854775807), (1, 3)], []), [0], [(0, (0, 0, 0, 0), (0, 4, 1, 0))]), (some (0, 0, 0, 1), ([(0, 3), (0, 59), ((-9223372036854775808), 9223372036854775807)], []), [0], [(0, (0, 0, 0, 0), (0, 0, 0, 0))])], [(0, 0), (2, 0)]))
def gc_H5 : List tk_Hd := []
theorem gc_5 (hXs : tk_xs gc_TY X tw) (hxt : tk_xtok xt) : tk_KS l D gk_cl gk_tbl gk_xw xt gk_MN gk_P gc_TY ro X ads tw 3 gc_K5 := tk_contract (hk := tk_hk0) tk_hk0_ok hXs hxt gk_rok [188, 189, 191, 192, 193] 5000 2 0 (Ks := []) (d := 0) (fun _ h => absurd h List.not_mem_nil) (Hs := gc_H5) (by decide +kernel) rfl
/-- GooseIce.read -/
def gc_K6 : tk_K := (132, [(2, 0, 0, 0), (0, 1, 1, 0), (0, 2, 1, 0)], ([((-2147483648), 2147483647), ((-2147483648), 2147483647)], []), [0], [], ([(some (1, 3, 1, 0), ([((-2147483648), 2147483647), ((-2147483648), 2147483647), ((-9223372036854775808), 9223372036854775807), (0, 3)], []), [0], [(0, (0, 0, 0, 0), (0, 4, 1, 0))])], [(0, 0)]))
def gc_H6 : List tk_Hd := []
theorem gc_6 (hXs : tk_xs gc_TY X tw) (hxt : tk_xtok xt) : tk_KS l D gk_cl gk_tbl gk_xw xt gk_MN gk_P gc_TY ro X ads tw 3 gc_K6 := tk_contract (hk := tk_hk0) tk_hk0_ok hXs hxt gk_rok [187, 191, 192] 5000 2 0 (Ks := []) (d := 0) (fun _ h => absurd h List.not_mem_nil) (Hs := gc_H6) (by decide +kernel) rfl
/-- Reader.take -/
def gc_K8 : tk_K := (101, [(2, 0, 0, 0), (0, 1, 1, 0)], ([((-2147483648), 2147483647)], []), [6], [], ([(none, ([((-2147483648), 2147483647)], []), [6], [])], [(6, 2), (7, 0)]))
def gc_H8 : List tk_Hd := [(3, [(0, (2, 0, 0, 0)), (1, (0, 1, 1, 0)), (2, (0, 2, 1, 0))], ([((-2147483648), 2147483647), ((-1000), 24)], []), [6], [], [(0, 0, (0, 0, 0, 0)), (0, 1000, (0, 2, 1, 0)), (0, 0, (0, 0, 0, 0))])]
theorem gc_8 (hXs : tk_xs gc_TY X tw) (hxt : tk_xtok xt) : tk_KS l D gk_cl gk_tbl gk_xw xt gk_MN gk_P gc_TY ro X ads tw 1 gc_K8 := tk_contract (hk := tk_hk0) tk_hk0_ok hXs hxt gk_rok [] 5000 0 3 (Ks := []) (d := 0) (fun _ h => absurd h List.not_mem_nil) (Hs := gc_H8) (by decide +kernel) rfl
/-- GooseIce.feed -/
def gc_K9 : tk_K := (134, [(2, 0, 0, 0), (0, 1, 1, 0), (0, 2, 1, 0), (0, 3, 1, 0), (0, 4, 1, 0), (0, 5, 1, 0)], ([((-2147483648), 2147483647), ((-2147483648), 2147483647), ((-2147483648), 2147483647), ((-2147483648), 2147483647), ((-2147483648), 2147483647)], []), [0], [], ([(some (0, 6, 1, 0), ([((-2147483648), 2147483647), ((-2147483648), 2147483647), ((-2147483648), 2147483647), ((-2147483648), 2147483647), ((-2147483648), 2147483647), ((-1), 900)], []), [0], [])], [(6, 2), (7, 0)]))
def gc_H9 : List tk_Hd := []
theorem gc_9 (hXs : tk_xs gc_TY X tw) (hxt : tk_xtok xt) : tk_KS l D gk_cl gk_tbl gk_xw xt gk_MN gk_P gc_TY ro X ads tw 3 gc_K9 := tk_contract (hk := tk_hk0) tk_hk0_ok hXs hxt gk_rok [100] 5000 1 0 (Ks := [gc_K8]) (d := 1) (List.forall_mem_cons.mpr ⟨tk_KS_up (by decide) (gc_8 hXs hxt), (fun _ h => absurd h List.not_mem_nil)⟩) (Hs := gc_H9) (by decide +kernel) rfl
/-- Reader.scanNumber -/
def gc_K10 : tk_K := (106, [(2, 0, 0, 0)], ([], []), [6], [(0, (0, 0, 0, 7), (0, 0, 0, (-1)))], ([(none, ([(2, 4)], []), [6], [(0, (0, 0, 0, 6), (0, 1, 1, 0))])], [(6, 5), (6, 6), (6, 9)]))
def gc_H10 : List tk_Hd := [(5, [(0, (2, 0, 0, 0))], ([(0, 900)], []), [6], [(0, (0, 0, 0, 7), (0, 0, 0, (-1))), (0, (0, 0, 0, 5), (0, 1, 1, 0))], [(0, 0, (0, 0, 0, 0)), (1, 900, (0, 1, 1, 0)), (0, 0, (0, 0, 0, 0))])]
theorem gc_10 (hXs : tk_xs gc_TY X tw) (hxt : tk_xtok xt) : tk_KS l D gk_cl gk_tbl gk_xw xt gk_MN gk_P gc_TY ro X ads tw 2 gc_K10 := tk_contract (hk := tk_hk0) tk_hk0_ok hXs hxt gk_rok [103] 5000 1 3 (Ks := []) (d := 0) (fun _ h => absurd h List.not_mem_nil) (Hs := gc_H10) (by decide +kernel) rfl
/-- Reader.scanWord -/
def gc_K11 : tk_K := (105, [(2, 0, 0, 0)], ([], []), [6], [(0, (0, 0, 0, 7), (0, 0, 0, (-1)))], ([(none, ([], []), [6], [(0, (0, 0, 0, 6), (0, 0, 0, 1))])], [(6, 5), (6, 6), (6, 7), (6, 8)]))
def gc_H11 : List tk_Hd := [(2, [(0, (2, 0, 0, 0)), (1, (1, 1, 1, 0))], ([((-9223372036854775808), 9223372036854775807), (0, 900)], []), [6], [(0, (0, 0, 0, 7), (0, 0, 0, (-1))), (0, (0, 0, 0, 5), (0, 2, 1, 0))], [(0, 1, (0, 0, 0, 0)), (1, 900, (0, 2, 1, 0)), (0, 0, (0, 0, 0, 0))]), (103, [(0, (2, 0, 0, 0)), (1, (1, 1, 1, 0)), (3, (0, 2, 1, 0))], ([((-9223372036854775808), 9223372036854775807), (0, 2147483647), (0, 900)], []), [6], [(0, (0, 0, 0, 5), (0, 3, 1, 0)), (0, (0, 0, 0, 6), (0, 0, 0, 1))], [(0, 0, (0, 0, 0, 0)), (1, 2147483647, (0, 2, 1, 0)), (0, 0, (0, 0, 0, 0))])]
theorem gc_11 (hXs : tk_xs gc_TY X tw) (hxt : tk_xtok xt) : tk_KS l D gk_cl gk_tbl gk_xw xt gk_MN gk_P gc_TY ro X ads tw 2 gc_K11 := tk_contract (hk := tk_hk0) tk_hk0_ok hXs hxt gk_rok [103] 5000 1 3 (Ks := []) (d := 0) (fun _ h => absurd h List.not_mem_nil) (Hs := gc_H11) (by decide +kernel) rfl
/-- Reader.scan -/
def gc_K12 : tk_K := (104, [(2, 0, 0, 0)], ([], []), [6], [], ([(none, ([], []), [6], [])], [(6, 4), (6, 5), (6, 6), (6, 7), (6, 8), (6, 9)]))
def gc_H12 : List tk_Hd := [(0, [(0, (2, 0, 0, 0))], ([(1, 900), (1, 900)], []), [6], [(0, (0, 0, 0, 3), (0, 1, 1, 0)), (0, (0, 0, 0, 5), (0, 2, 1, 0))], [(0, 0, (0, 0, 0, 0)), (1, 900, (0, 2, 1, 0)), (0, 0, (0, 0, 0, 0))])]
theorem gc_12 (hXs : tk_xs gc_TY X tw) (hxt : tk_xtok xt) : tk_KS l D gk_cl gk_tbl gk_xw xt gk_MN gk_P gc_TY ro X ads tw 4 gc_K12 := tk_contract (hk := tk_hk0) tk_hk0_ok hXs hxt gk_rok [103] 5000 1 3 (Ks := [gc_K10, gc_K11]) (d := 2) (List.forall_mem_cons.mpr ⟨tk_KS_up (by decide) (gc_10 hXs hxt), (List.forall_mem_cons.mpr ⟨tk_KS_up (by decide) (gc_11 hXs hxt), (fun _ h => absurd h List.not_mem_nil)⟩)⟩) (Hs := gc_H12) (by decide +kernel) rfl
/-- java/util/Arrays.fill -/
def gc_K13 : tk_K := (388, [(2, 0, 0, 0), (0, 0, 0, 0)], ([], []), [40], [], ([(none, ([], []), [40], [])], [(40, 0)]))
def gc_H13 : List tk_Hd := [(5, [(0, (2, 0, 0, 0)), (1, (0, 0, 0, 0)), (2, (0, 1, 1, 0)), (3, (0, 0, 0, 10))], ([(0, 10)], []), [40], [], [(0, 0, (0, 0, 0, 0)), (1, 10, (0, 1, 1, 0)), (0, 0, (0, 0, 0, 0))])]
theorem gc_13 (hXs : tk_xs gc_TY X tw) (hxt : tk_xtok xt) : tk_KS l D gk_cl gk_tbl gk_xw xt gk_MN gk_P gc_TY ro X ads tw 1 gc_K13 := tk_contract (hk := tk_hk0) tk_hk0_ok hXs hxt gk_rok [] 5000 0 3 (Ks := []) (d := 0) (fun _ h => absurd h List.not_mem_nil) (Hs := gc_H13) (by decide +kernel) rfl
/-- java/util/Arrays.fill -/
def gc_K14 : tk_K := (388, [(2, 0, 0, 0), (0, 0, 0, 0)], ([], []), [41], [], ([(none, ([], []), [41], [])], [(41, 0)]))
def gc_H14 : List tk_Hd := [(5, [(0, (2, 0, 0, 0)), (1, (0, 0, 0, 0)), (2, (0, 1, 1, 0)), (3, (0, 0, 0, 10))], ([(0, 10)], []), [41], [], [(0, 0, (0, 0, 0, 0)), (1, 10, (0, 1, 1, 0)), (0, 0, (0, 0, 0, 0))])]
theorem gc_14 (hXs : tk_xs gc_TY X tw) (hxt : tk_xtok xt) : tk_KS l D gk_cl gk_tbl gk_xw xt gk_MN gk_P gc_TY ro X ads tw 1 gc_K14 := tk_contract (hk := tk_hk0) tk_hk0_ok hXs hxt gk_rok [] 5000 0 3 (Ks := []) (d := 0) (fun _ h => absurd h List.not_mem_nil) (Hs := gc_H14) (by decide +kernel) rfl
/-- java/util/Arrays.fill -/
def gc_K15 : tk_K := (388, [(2, 0, 0, 0), (0, 0, 0, 0)], ([], []), [42], [], ([(none, ([], []), [42], [])], [(42, 0)]))
def gc_H15 : List tk_Hd := [(5, [(0, (2, 0, 0, 0)), (1, (0, 0, 0, 0)), (2, (0, 1, 1, 0)), (3, (0, 0, 0, 10))], ([(0, 10)], []), [42], [], [(0, 0, (0, 0, 0, 0)), (1, 10, (0, 1, 1, 0)), (0, 0, (0, 0, 0, 0))])]
theorem gc_15 (hXs : tk_xs gc_TY X tw) (hxt : tk_xtok xt) : tk_KS l D gk_cl gk_tbl gk_xw xt gk_MN gk_P gc_TY ro X ads tw 1 gc_K15 := tk_contract (hk := tk_hk0) tk_hk0_ok hXs hxt gk_rok [] 5000 0 3 (Ks := []) (d := 0) (fun _ h => absurd h List.not_mem_nil) (Hs := gc_H15) (by decide +kernel) rfl
/-- java/util/Arrays.fill -/
def gc_K16 : tk_K := (388, [(2, 0, 0, 0), (0, 0, 0, 0)], ([], []), [45], [], ([(none, ([], []), [45], [])], [(45, 0)]))
def gc_H16 : List tk_Hd := [(5, [(0, (2, 0, 0, 0)), (1, (0, 0, 0, 0)), (2, (0, 1, 1, 0)), (3, (0, 0, 0, 10))], ([(0, 10)], []), [45], [], [(0, 0, (0, 0, 0, 0)), (1, 10, (0, 1, 1, 0)), (0, 0, (0, 0, 0, 0))])]
theorem gc_16 (hXs : tk_xs gc_TY X tw) (hxt : tk_xtok xt) : tk_KS l D gk_cl gk_tbl gk_xw xt gk_MN gk_P gc_TY ro X ads tw 1 gc_K16 := tk_contract (hk := tk_hk0) tk_hk0_ok hXs hxt gk_rok [] 5000 0 3 (Ks := []) (d := 0) (fun _ h => absurd h List.not_mem_nil) (Hs := gc_H16) (by decide +kernel) rfl
/-- java/util/Arrays.fill -/
def gc_K17 : tk_K := (388, [(2, 0, 0, 0), (0, 0, 0, 0)], ([], []), [46], [], ([(none, ([], []), [46], [])], [(46, 0)]))
def gc_H17 : List tk_Hd := [(5, [(0, (2, 0, 0, 0)), (1, (0, 0, 0, 0)), (2, (0, 1, 1, 0)), (3, (0, 0, 0, 10))], ([(0, 10)], []), [46], [], [(0, 0, (0, 0, 0, 0)), (1, 10, (0, 1, 1, 0)), (0, 0, (0, 0, 0, 0))])]
theorem gc_17 (hXs : tk_xs gc_TY X tw) (hxt : tk_xtok xt) : tk_KS l D gk_cl gk_tbl gk_xw xt gk_MN gk_P gc_TY ro X ads tw 1 gc_K17 := tk_contract (hk := tk_hk0) tk_hk0_ok hXs hxt gk_rok [] 5000 0 3 (Ks := []) (d := 0) (fun _ h => absurd h List.not_mem_nil) (Hs := gc_H17) (by decide +kernel) rfl
/-- java/util/Arrays.fill -/
def gc_K18 : tk_K := (388, [(2, 0, 0, 0), (0, 0, 0, 0)], ([], []), [47], [], ([(none, ([], []), [47], [])], [(47, 0)]))
def gc_H18 : List tk_Hd := [(5, [(0, (2, 0, 0, 0)), (1, (0, 0, 0, 0)), (2, (0, 1, 1, 0)), (3, (0, 0, 0, 10))], ([(0, 10)], []), [47], [], [(0, 0, (0, 0, 0, 0)), (1, 10, (0, 1, 1, 0)), (0, 0, (0, 0, 0, 0))])]
theorem gc_18 (hXs : tk_xs gc_TY X tw) (hxt : tk_xtok xt) : tk_KS l D gk_cl gk_tbl gk_xw xt gk_MN gk_P gc_TY ro X ads tw 1 gc_K18 := tk_contract (hk := tk_hk0) tk_hk0_ok hXs hxt gk_rok [] 5000 0 3 (Ks := []) (d := 0) (fun _ h => absurd h List.not_mem_nil) (Hs := gc_H18) (by decide +kernel) rfl
/-- java/util/Arrays.fill -/
def gc_K19 : tk_K := (388, [(2, 0, 0, 0), (0, 0, 0, 0)], ([], []), [48], [], ([(none, ([], []), [48], [])], [(48, 0)]))
def gc_H19 : List tk_Hd := [(5, [(0, (2, 0, 0, 0)), (1, (0, 0, 0, 0)), (2, (0, 1, 1, 0)), (3, (0, 0, 0, 200))], ([(0, 255)], []), [48], [], [(0, 0, (0, 0, 0, 0)), (1, 255, (0, 1, 1, 0)), (0, 0, (0, 0, 0, 0))])]
theorem gc_19 (hXs : tk_xs gc_TY X tw) (hxt : tk_xtok xt) : tk_KS l D gk_cl gk_tbl gk_xw xt gk_MN gk_P gc_TY ro X ads tw 1 gc_K19 := tk_contract (hk := tk_hk0) tk_hk0_ok hXs hxt gk_rok [] 5000 0 3 (Ks := []) (d := 0) (fun _ h => absurd h List.not_mem_nil) (Hs := gc_H19) (by decide +kernel) rfl
/-- Ice.clear -/
def gc_K20 : tk_K := (24, [(2, 0, 0, 0)], ([], []), [44], [], ([(none, ([], []), [44], [])], [(44, 4), (44, 5), (45, 0), (46, 0), (47, 0), (48, 0)]))
def gc_H20 : List tk_Hd := []
theorem gc_20 (hXs : tk_xs gc_TY X tw) (hxt : tk_xtok xt) : tk_KS l D gk_cl gk_tbl gk_xw xt gk_MN gk_P gc_TY ro X ads tw 2 gc_K20 := tk_contract (hk := tk_hk0) tk_hk0_ok hXs hxt gk_rok [] 5000 0 0 (Ks := [gc_K16, gc_K17, gc_K18, gc_K19]) (d := 1) (List.forall_mem_cons.mpr ⟨tk_KS_up (by decide) (gc_16 hXs hxt), (List.forall_mem_cons.mpr ⟨tk_KS_up (by decide) (gc_17 hXs hxt), (List.forall_mem_cons.mpr ⟨tk_KS_up (by decide) (gc_18 hXs hxt), (List.forall_mem_cons.mpr ⟨tk_KS_up (by decide) (gc_19 hXs hxt), (fun _ h => absurd h List.not_mem_nil)⟩)⟩)⟩)⟩) (Hs := gc_H20) (by decide +kernel) rfl
/-- java/util/Arrays.fill -/
def gc_K21 : tk_K := (388, [(2, 0, 0, 0), (0, 0, 0, 0)], ([], []), [53], [], ([(none, ([], []), [53], [])], [(53, 0)]))
def gc_H21 : List tk_Hd := [(5, [(0, (2, 0, 0, 0)), (1, (0, 0, 0, 0)), (2, (0, 1, 1, 0)), (3, (0, 0, 0, 8))], ([(0, 8)], []), [53], [], [(0, 0, (0, 0, 0, 0)), (1, 8, (0, 1, 1, 0)), (0, 0, (0, 0, 0, 0))])]
theorem gc_21 (hXs : tk_xs gc_TY X tw) (hxt : tk_xtok xt) : tk_KS l D gk_cl gk_tbl gk_xw xt gk_MN gk_P gc_TY ro X ads tw 1 gc_K21 := tk_contract (hk := tk_hk0) tk_hk0_ok hXs hxt gk_rok [] 5000 0 3 (Ks := []) (d := 0) (fun _ h => absurd h List.not_mem_nil) (Hs := gc_H21) (by decide +kernel) rfl
/-- Lake.clear -/
def gc_K22 : tk_K := (30, [(2, 0, 0, 0)], ([], []), [38], [], ([(none, ([], []), [38], [(0, (0, 0, 0, 13), (0, 0, 0, 0))])], [(38, 8), (38, 9), (38, 10), (38, 11), (38, 12), (38, 13), (40, 0), (41, 0), (42, 0), (44, 4), (44, 5), (45, 0), (46, 0), (47, 0), (48, 0), (49, 7), (49, 8), (49, 9), (53, 0)]))
def gc_H22 : List tk_Hd := []
theorem gc_22 (hXs : tk_xs gc_TY X tw) (hxt : tk_xtok xt) : tk_KS l D gk_cl gk_tbl gk_xw xt gk_MN gk_P gc_TY ro X ads tw 4 gc_K22 := tk_contract (hk := tk_hk0) tk_hk0_ok hXs hxt gk_rok [1] 5000 1 0 (Ks := [gc_K13, gc_K14, gc_K15, gc_K20, gc_K21]) (d := 2) (List.forall_mem_cons.mpr ⟨tk_KS_up (by decide) (gc_13 hXs hxt), (List.forall_mem_cons.mpr ⟨tk_KS_up (by decide) (gc_14 hXs hxt), (List.forall_mem_cons.mpr ⟨tk_KS_up (by decide) (gc_15 hXs hxt), (List.forall_mem_cons.mpr ⟨tk_KS_up (by decide) (gc_20 hXs hxt), (List.forall_mem_cons.mpr ⟨tk_KS_up (by decide) (gc_21 hXs hxt), (fun _ h => absurd h List.not_mem_nil)⟩)⟩)⟩)⟩)⟩) (Hs := gc_H22) (by decide +kernel) rfl
/-- Reader.misfit -/
def gc_K23 : tk_K := (108, [(2, 0, 0, 0)], ([], []), [6], [], ([(none, ([((-1), 7)], []), [6], [(0, (0, 0, 0, 10), (0, 1, 1, 0))])], [(6, 10), (6, 11)]))
def gc_H23 : List tk_Hd := []
theorem gc_23 (hXs : tk_xs gc_TY X tw) (hxt : tk_xtok xt) : tk_KS l D gk_cl gk_tbl gk_xw xt gk_MN gk_P gc_TY ro X ads tw 2 gc_K23 := tk_contract (hk := tk_hk0) tk_hk0_ok hXs hxt gk_rok [107] 5000 1 0 (Ks := []) (d := 0) (fun _ h => absurd h List.not_mem_nil) (Hs := gc_H23) (by decide +kernel) rfl
/-- Reader.nameHere -/
def gc_K24 : tk_K := (112, [(2, 0, 0, 0)], ([], []), [6], [], ([(some (1, 1, 1, 0), ([((-9223372036854775808), 9223372036854775807)], []), [6], [])], [(6, 10), (6, 11)]))
def gc_H24 : List tk_Hd := []
theorem gc_24 (hXs : tk_xs gc_TY X tw) (hxt : tk_xtok xt) : tk_KS l D gk_cl gk_tbl gk_xw xt gk_MN gk_P gc_TY ro X ads tw 3 gc_K24 := tk_contract (hk := tk_hk0) tk_hk0_ok hXs hxt gk_rok [] 5000 0 0 (Ks := [gc_K23]) (d := 2) (List.forall_mem_cons.mpr ⟨tk_KS_up (by decide) (gc_23 hXs hxt), (fun _ h => absurd h List.not_mem_nil)⟩) (Hs := gc_H24) (by decide +kernel) rfl
/-- Lake.named -/
def gc_K25 : tk_K := (38, [(2, 0, 0, 0), (1, 1, 1, 0)], ([((-9223372036854775808), 9223372036854775807)], []), [38], [(0, (0, 0, 0, 13), (0, 0, 0, 0))], ([(some (0, 2, 1, 0), ([((-9223372036854775808), 9223372036854775807), ((-1), 9)], []), [38], [])], []))
def gc_H25 : List tk_Hd := [(2, [(0, (2, 0, 0, 0)), (1, (1, 1, 1, 0)), (3, (0, 2, 1, 0))], ([((-9223372036854775808), 9223372036854775807), (0, 10)], []), [38], [(0, (0, 0, 0, 13), (0, 0, 0, 0))], [(0, 0, (0, 0, 0, 0)), (1, 10, (0, 2, 1, 0)), (0, 0, (0, 0, 0, 0))])]
theorem gc_25 (hXs : tk_xs gc_TY X tw) (hxt : tk_xtok xt) : tk_KS l D gk_cl gk_tbl gk_xw xt gk_MN gk_P gc_TY ro X ads tw 1 gc_K25 := tk_contract (hk := tk_hk0) tk_hk0_ok hXs hxt gk_rok [] 5000 0 3 (Ks := []) (d := 0) (fun _ h => absurd h List.not_mem_nil) (Hs := gc_H25) (by decide +kernel) rfl
end GC
