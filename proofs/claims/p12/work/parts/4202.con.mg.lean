section MH29_0
section GC2
variable {l : Launch} {D : va_G} {xt : tk_XT} {ro : Nat → Nat → Int → Prop} {ads tw : List Nat}
/-- Reader.take -/
def gc_K8 : tk_K := (101, [(2, 0, 0, 0), (0, 1, 1, 0)], ([((-2147483648), 2147483647)], []), [6], [], ([(none, ([((-2147483648), 2147483647)], []), [6], [])], [(6, 2), (7, 0)]))
def gc_H8 : List tk_Hd := [(3, [(0, (2, 0, 0, 0)), (1, (0, 1, 1, 0)), (2, (0, 2, 1, 0))], ([((-2147483648), 2147483647), ((-1000), 24)], []), [6], [], [(0, 0, (0, 0, 0, 0)), (0, 1000, (0, 2, 1, 0)), (0, 0, (0, 0, 0, 0))])]
theorem gc_8 (hU : gc_U tw) (hxt : tk_xtok xt) : tk_KS l D gk_cl gk_tbl gk_xw xt gk_MN gk_P gc_TY ro (gc_X tw) ads tw 1 gc_K8 := tk_contract (hk := tk_hk0) tk_hk0_ok (gc_xs hU) hxt gk_rok [] 9000 0 3 (Ks := []) (d := 0) (fun _ h => absurd h List.not_mem_nil) (Hs := gc_H8) (by decide +kernel) rfl
/-- GooseIce.feed -/
def gc_K9 : tk_K := (134, [(2, 0, 0, 0), (0, 1, 1, 0), (0, 2, 1, 0), (0, 3, 1, 0), (0, 4, 1, 0), (0, 5, 1, 0)], ([((-2147483648), 2147483647), ((-2147483648), 2147483647), ((-2147483648), 2147483647), ((-2147483648), 2147483647), ((-2147483648), 2147483647)], []), [0], [], ([(some (0, 6, 1, 0), ([((-2147483648), 2147483647), ((-2147483648), 2147483647), ((-2147483648), 2147483647), ((-2147483648), 2147483647), ((-2147483648), 2147483647), ((-1), 900)], []), [0], [])], [(6, 2), (7, 0)]))
def gc_H9 : List tk_Hd := []
theorem gc_9 (hU : gc_U tw) (hxt : tk_xtok xt) : tk_KS l D gk_cl gk_tbl gk_xw xt gk_MN gk_P gc_TY ro (gc_X tw) ads tw 3 gc_K9 := tk_contract (hk := tk_hk0) tk_hk0_ok (gc_xs hU) hxt gk_rok [100] 9000 1 0 (Ks := [gc_K8]) (d := 1) (List.forall_mem_cons.mpr ⟨tk_KS_up (by decide) (gc_8 hU hxt), (fun _ h => absurd h List.not_mem_nil)⟩) (Hs := gc_H9) (by decide +kernel) rfl
/-- Reader.scanNumber -/
def gc_K10 : tk_K := (106, [(2, 0, 0, 0)], ([], []), [6], [(0, (0, 0, 0, 7), (0, 0, 0, (-1)))], ([(none, ([], []), [6], [])], [(6, 5), (6, 6), (6, 9)]))
def gc_H10 : List tk_Hd := [(5, [(0, (2, 0, 0, 0))], ([(0, 900)], []), [6], [(0, (0, 0, 0, 7), (0, 0, 0, (-1))), (0, (0, 0, 0, 5), (0, 1, 1, 0))], [(0, 0, (0, 0, 0, 0)), (1, 900, (0, 1, 1, 0)), (0, 0, (0, 0, 0, 0))])]
theorem gc_10 (hU : gc_U tw) (hxt : tk_xtok xt) : tk_KS l D gk_cl gk_tbl gk_xw xt gk_MN gk_P gc_TY ro (gc_X tw) ads tw 2 gc_K10 := tk_contract (hk := tk_hk0) tk_hk0_ok (gc_xs hU) hxt gk_rok [103] 9000 1 3 (Ks := []) (d := 0) (fun _ h => absurd h List.not_mem_nil) (Hs := gc_H10) (by decide +kernel) rfl
/-- Reader.scanWord -/
def gc_K11 : tk_K := (105, [(2, 0, 0, 0)], ([], []), [6], [(0, (0, 0, 0, 7), (0, 0, 0, (-1)))], ([(none, ([], []), [6], [(0, (0, 0, 0, 6), (0, 0, 0, 1))])], [(6, 5), (6, 6), (6, 7), (6, 8)]))
def gc_H11 : List tk_Hd := [(2, [(0, (2, 0, 0, 0)), (1, (1, 1, 1, 0))], ([((-9223372036854775808), 9223372036854775807), (0, 900)], []), [6], [(0, (0, 0, 0, 7), (0, 0, 0, (-1))), (0, (0, 0, 0, 5), (0, 2, 1, 0))], [(0, 1, (0, 0, 0, 0)), (1, 900, (0, 2, 1, 0)), (0, 0, (0, 0, 0, 0))]), (103, [(0, (2, 0, 0, 0)), (1, (1, 1, 1, 0)), (3, (0, 2, 1, 0))], ([((-9223372036854775808), 9223372036854775807), (0, 2147483647), (0, 900)], []), [6], [(0, (0, 0, 0, 5), (0, 3, 1, 0)), (0, (0, 0, 0, 6), (0, 0, 0, 1))], [(0, 0, (0, 0, 0, 0)), (1, 2147483647, (0, 2, 1, 0)), (0, 0, (0, 0, 0, 0))])]
theorem gc_11 (hU : gc_U tw) (hxt : tk_xtok xt) : tk_KS l D gk_cl gk_tbl gk_xw xt gk_MN gk_P gc_TY ro (gc_X tw) ads tw 2 gc_K11 := tk_contract (hk := tk_hk0) tk_hk0_ok (gc_xs hU) hxt gk_rok [103] 9000 1 3 (Ks := []) (d := 0) (fun _ h => absurd h List.not_mem_nil) (Hs := gc_H11) (by decide +kernel) rfl
/-- Reader.scan -/
def gc_K12 : tk_K := (104, [(2, 0, 0, 0)], ([], []), [6], [], ([(none, ([], []), [6], [])], [(6, 4), (6, 5), (6, 6), (6, 7), (6, 8), (6, 9)]))
def gc_H12 : List tk_Hd := [(0, [(0, (2, 0, 0, 0))], ([(1, 900), (1, 900)], []), [6], [(0, (0, 0, 0, 3), (0, 1, 1, 0)), (0, (0, 0, 0, 5), (0, 2, 1, 0))], [(0, 0, (0, 0, 0, 0)), (1, 900, (0, 2, 1, 0)), (0, 0, (0, 0, 0, 0))])]
theorem gc_12 (hU : gc_U tw) (hxt : tk_xtok xt) : tk_KS l D gk_cl gk_tbl gk_xw xt gk_MN gk_P gc_TY ro (gc_X tw) ads tw 4 gc_K12 := tk_contract (hk := tk_hk0) tk_hk0_ok (gc_xs hU) hxt gk_rok [103] 9000 1 3 (Ks := [gc_K10, gc_K11]) (d := 2) (List.forall_mem_cons.mpr ⟨tk_KS_up (by decide) (gc_10 hU hxt), (List.forall_mem_cons.mpr ⟨tk_KS_up (by decide) (gc_11 hU hxt), (fun _ h => absurd h List.not_mem_nil)⟩)⟩) (Hs := gc_H12) (by decide +kernel) rfl
/-- java/util/Arrays.fill -/
def gc_K13 : tk_K := (388, [(2, 0, 0, 0), (0, 0, 0, 0)], ([], []), [40], [], ([(none, ([], []), [40], [])], [(40, 0)]))
def gc_H13 : List tk_Hd := [(5, [(0, (2, 0, 0, 0)), (1, (0, 0, 0, 0)), (2, (0, 1, 1, 0)), (3, (0, 0, 0, 10))], ([(0, 10)], []), [40], [], [(0, 0, (0, 0, 0, 0)), (1, 10, (0, 1, 1, 0)), (0, 0, (0, 0, 0, 0))])]
theorem gc_13 (hU : gc_U tw) (hxt : tk_xtok xt) : tk_KS l D gk_cl gk_tbl gk_xw xt gk_MN gk_P gc_TY ro (gc_X tw) ads tw 1 gc_K13 := tk_contract (hk := tk_hk0) tk_hk0_ok (gc_xs hU) hxt gk_rok [] 9000 0 3 (Ks := []) (d := 0) (fun _ h => absurd h List.not_mem_nil) (Hs := gc_H13) (by decide +kernel) rfl
/-- java/util/Arrays.fill -/
def gc_K14 : tk_K := (388, [(2, 0, 0, 0), (0, 0, 0, 0)], ([], []), [41], [], ([(none, ([], []), [41], [])], [(41, 0)]))
def gc_H14 : List tk_Hd := [(5, [(0, (2, 0, 0, 0)), (1, (0, 0, 0, 0)), (2, (0, 1, 1, 0)), (3, (0, 0, 0, 10))], ([(0, 10)], []), [41], [], [(0, 0, (0, 0, 0, 0)), (1, 10, (0, 1, 1, 0)), (0, 0, (0, 0, 0, 0))])]
theorem gc_14 (hU : gc_U tw) (hxt : tk_xtok xt) : tk_KS l D gk_cl gk_tbl gk_xw xt gk_MN gk_P gc_TY ro (gc_X tw) ads tw 1 gc_K14 := tk_contract (hk := tk_hk0) tk_hk0_ok (gc_xs hU) hxt gk_rok [] 9000 0 3 (Ks := []) (d := 0) (fun _ h => absurd h List.not_mem_nil) (Hs := gc_H14) (by decide +kernel) rfl
/-- java/util/Arrays.fill -/
def gc_K15 : tk_K := (388, [(2, 0, 0, 0), (0, 0, 0, 0)], ([], []), [42], [], ([(none, ([], []), [42], [])], [(42, 0)]))
def gc_H15 : List tk_Hd := [(5, [(0, (2, 0, 0, 0)), (1, (0, 0, 0, 0)), (2, (0, 1, 1, 0)), (3, (0, 0, 0, 10))], ([(0, 10)], []), [42], [], [(0, 0, (0, 0, 0, 0)), (1, 10, (0, 1, 1, 0)), (0, 0, (0, 0, 0, 0))])]
theorem gc_15 (hU : gc_U tw) (hxt : tk_xtok xt) : tk_KS l D gk_cl gk_tbl gk_xw xt gk_MN gk_P gc_TY ro (gc_X tw) ads tw 1 gc_K15 := tk_contract (hk := tk_hk0) tk_hk0_ok (gc_xs hU) hxt gk_rok [] 9000 0 3 (Ks := []) (d := 0) (fun _ h => absurd h List.not_mem_nil) (Hs := gc_H15) (by decide +kernel) rfl
end GC2
end MH29_0
section MH29_1
section GC3
variable {l : Launch} {D : va_G} {xt : tk_XT} {ro : Nat → Nat → Int → Prop} {ads tw : List Nat}
/-- java/util/Arrays.fill -/
def gc_K16 : tk_K := (388, [(2, 0, 0, 0), (0, 0, 0, 0)], ([], []), [45], [], ([(none, ([], []), [45], [])], [(45, 0)]))
def gc_H16 : List tk_Hd := [(5, [(0, (2, 0, 0, 0)), (1, (0, 0, 0, 0)), (2, (0, 1, 1, 0)), (3, (0, 0, 0, 10))], ([(0, 10)], []), [45], [], [(0, 0, (0, 0, 0, 0)), (1, 10, (0, 1, 1, 0)), (0, 0, (0, 0, 0, 0))])]
theorem gc_16 (hU : gc_U tw) (hxt : tk_xtok xt) : tk_KS l D gk_cl gk_tbl gk_xw xt gk_MN gk_P gc_TY ro (gc_X tw) ads tw 1 gc_K16 := tk_contract (hk := tk_hk0) tk_hk0_ok (gc_xs hU) hxt gk_rok [] 9000 0 3 (Ks := []) (d := 0) (fun _ h => absurd h List.not_mem_nil) (Hs := gc_H16) (by decide +kernel) rfl
/-- java/util/Arrays.fill -/
def gc_K17 : tk_K := (388, [(2, 0, 0, 0), (0, 0, 0, 0)], ([], []), [46], [], ([(none, ([], []), [46], [])], [(46, 0)]))
def gc_H17 : List tk_Hd := [(5, [(0, (2, 0, 0, 0)), (1, (0, 0, 0, 0)), (2, (0, 1, 1, 0)), (3, (0, 0, 0, 10))], ([(0, 10)], []), [46], [], [(0, 0, (0, 0, 0, 0)), (1, 10, (0, 1, 1, 0)), (0, 0, (0, 0, 0, 0))])]
theorem gc_17 (hU : gc_U tw) (hxt : tk_xtok xt) : tk_KS l D gk_cl gk_tbl gk_xw xt gk_MN gk_P gc_TY ro (gc_X tw) ads tw 1 gc_K17 := tk_contract (hk := tk_hk0) tk_hk0_ok (gc_xs hU) hxt gk_rok [] 9000 0 3 (Ks := []) (d := 0) (fun _ h => absurd h List.not_mem_nil) (Hs := gc_H17) (by decide +kernel) rfl
/-- java/util/Arrays.fill -/
def gc_K18 : tk_K := (388, [(2, 0, 0, 0), (0, 0, 0, 0)], ([], []), [47], [], ([(none, ([], []), [47], [])], [(47, 0)]))
def gc_H18 : List tk_Hd := [(5, [(0, (2, 0, 0, 0)), (1, (0, 0, 0, 0)), (2, (0, 1, 1, 0)), (3, (0, 0, 0, 10))], ([(0, 10)], []), [47], [], [(0, 0, (0, 0, 0, 0)), (1, 10, (0, 1, 1, 0)), (0, 0, (0, 0, 0, 0))])]
theorem gc_18 (hU : gc_U tw) (hxt : tk_xtok xt) : tk_KS l D gk_cl gk_tbl gk_xw xt gk_MN gk_P gc_TY ro (gc_X tw) ads tw 1 gc_K18 := tk_contract (hk := tk_hk0) tk_hk0_ok (gc_xs hU) hxt gk_rok [] 9000 0 3 (Ks := []) (d := 0) (fun _ h => absurd h List.not_mem_nil) (Hs := gc_H18) (by decide +kernel) rfl
/-- java/util/Arrays.fill -/
def gc_K19 : tk_K := (388, [(2, 0, 0, 0), (0, 0, 0, 0)], ([], []), [48], [], ([(none, ([], []), [48], [])], [(48, 0)]))
def gc_H19 : List tk_Hd := [(5, [(0, (2, 0, 0, 0)), (1, (0, 0, 0, 0)), (2, (0, 1, 1, 0)), (3, (0, 0, 0, 200))], ([(0, 255)], []), [48], [], [(0, 0, (0, 0, 0, 0)), (1, 255, (0, 1, 1, 0)), (0, 0, (0, 0, 0, 0))])]
theorem gc_19 (hU : gc_U tw) (hxt : tk_xtok xt) : tk_KS l D gk_cl gk_tbl gk_xw xt gk_MN gk_P gc_TY ro (gc_X tw) ads tw 1 gc_K19 := tk_contract (hk := tk_hk0) tk_hk0_ok (gc_xs hU) hxt gk_rok [] 9000 0 3 (Ks := []) (d := 0) (fun _ h => absurd h List.not_mem_nil) (Hs := gc_H19) (by decide +kernel) rfl
/-- Ice.clear -/
def gc_K20 : tk_K := (24, [(2, 0, 0, 0)], ([], []), [44], [], ([(none, ([], []), [44], [])], [(44, 4), (44, 5), (45, 0), (46, 0), (47, 0), (48, 0)]))
def gc_H20 : List tk_Hd := []
theorem gc_20 (hU : gc_U tw) (hxt : tk_xtok xt) : tk_KS l D gk_cl gk_tbl gk_xw xt gk_MN gk_P gc_TY ro (gc_X tw) ads tw 2 gc_K20 := tk_contract (hk := tk_hk0) tk_hk0_ok (gc_xs hU) hxt gk_rok [] 9000 0 0 (Ks := [gc_K16, gc_K17, gc_K18, gc_K19]) (d := 1) (List.forall_mem_cons.mpr ⟨tk_KS_up (by decide) (gc_16 hU hxt), (List.forall_mem_cons.mpr ⟨tk_KS_up (by decide) (gc_17 hU hxt), (List.forall_mem_cons.mpr ⟨tk_KS_up (by decide) (gc_18 hU hxt), (List.forall_mem_cons.mpr ⟨tk_KS_up (by decide) (gc_19 hU hxt), (fun _ h => absurd h List.not_mem_nil)⟩)⟩)⟩)⟩) (Hs := gc_H20) (by decide +kernel) rfl
/-- java/util/Arrays.fill -/
def gc_K21 : tk_K := (388, [(2, 0, 0, 0), (0, 0, 0, 0)], ([], []), [53], [], ([(none, ([], []), [53], [])], [(53, 0)]))
def gc_H21 : List tk_Hd := [(5, [(0, (2, 0, 0, 0)), (1, (0, 0, 0, 0)), (2, (0, 1, 1, 0)), (3, (0, 0, 0, 8))], ([(0, 8)], []), [53], [], [(0, 0, (0, 0, 0, 0)), (1, 8, (0, 1, 1, 0)), (0, 0, (0, 0, 0, 0))])]
theorem gc_21 (hU : gc_U tw) (hxt : tk_xtok xt) : tk_KS l D gk_cl gk_tbl gk_xw xt gk_MN gk_P gc_TY ro (gc_X tw) ads tw 1 gc_K21 := tk_contract (hk := tk_hk0) tk_hk0_ok (gc_xs hU) hxt gk_rok [] 9000 0 3 (Ks := []) (d := 0) (fun _ h => absurd h List.not_mem_nil) (Hs := gc_H21) (by decide +kernel) rfl
/-- Lake.clear -/
def gc_K22 : tk_K := (30, [(2, 0, 0, 0)], ([], []), [38], [], ([(none, ([], []), [38], [(0, (0, 0, 0, 13), (0, 0, 0, 0))])], [(38, 8), (38, 9), (38, 10), (38, 11), (38, 12), (38, 13), (40, 0), (41, 0), (42, 0), (44, 4), (44, 5), (45, 0), (46, 0), (47, 0), (48, 0), (49, 7), (49, 8), (49, 9), (53, 0)]))
def gc_H22 : List tk_Hd := []
theorem gc_22 (hU : gc_U tw) (hxt : tk_xtok xt) : tk_KS l D gk_cl gk_tbl gk_xw xt gk_MN gk_P gc_TY ro (gc_X tw) ads tw 4 gc_K22 := tk_contract (hk := tk_hk0) tk_hk0_ok (gc_xs hU) hxt gk_rok [1] 9000 1 0 (Ks := [gc_K13, gc_K14, gc_K15, gc_K20, gc_K21]) (d := 2) (List.forall_mem_cons.mpr ⟨tk_KS_up (by decide) (gc_13 hU hxt), (List.forall_mem_cons.mpr ⟨tk_KS_up (by decide) (gc_14 hU hxt), (List.forall_mem_cons.mpr ⟨tk_KS_up (by decide) (gc_15 hU hxt), (List.forall_mem_cons.mpr ⟨tk_KS_up (by decide) (gc_20 hU hxt), (List.forall_mem_cons.mpr ⟨tk_KS_up (by decide) (gc_21 hU hxt), (fun _ h => absurd h List.not_mem_nil)⟩)⟩)⟩)⟩)⟩) (Hs := gc_H22) (by decide +kernel) rfl
/-- Reader.misfit -/
def gc_K23 : tk_K := (108, [(2, 0, 0, 0)], ([((-1), 7)], []), [6], [(0, (0, 0, 0, 10), (0, 1, 1, 0))], ([(none, ([((-1), (-1))], []), [6], [(0, (0, 0, 0, 10), (0, 1, 1, 0))]), (none, ([(0, 7), (1, 7)], []), [6], [(0, (0, 0, 0, 10), (0, 2, 1, 0))])], [(6, 10), (6, 11)]))
def gc_H23 : List tk_Hd := []
theorem gc_23 (hU : gc_U tw) (hxt : tk_xtok xt) : tk_KS l D gk_cl gk_tbl gk_xw xt gk_MN gk_P gc_TY ro (gc_X tw) ads tw 3 gc_K23 := tk_contract (hk := tk_hk0) tk_hk0_ok (gc_xs hU) hxt gk_rok [107] 9000 2 0 (Ks := []) (d := 0) (fun _ h => absurd h List.not_mem_nil) (Hs := gc_H23) (by decide +kernel) rfl
/-- Reader.nameHere -/
def gc_K24 : tk_K := (112, [(2, 0, 0, 0)], ([], []), [6], [], ([(some (1, 1, 1, 0), ([((-9223372036854775808), 9223372036854775807)], []), [6], [])], [(6, 10), (6, 11)]))
def gc_H24 : List tk_Hd := []
theorem gc_24 (hU : gc_U tw) (hxt : tk_xtok xt) : tk_KS l D gk_cl gk_tbl gk_xw xt gk_MN gk_P gc_TY ro (gc_X tw) ads tw 4 gc_K24 := tk_contract (hk := tk_hk0) tk_hk0_ok (gc_xs hU) hxt gk_rok [] 9000 0 0 (Ks := [gc_K23]) (d := 3) (List.forall_mem_cons.mpr ⟨tk_KS_up (by decide) (gc_23 hU hxt), (fun _ h => absurd h List.not_mem_nil)⟩) (Hs := gc_H24) (by decide +kernel) rfl
/-- Lake.named -/
def gc_K25 : tk_K := (38, [(2, 0, 0, 0), (1, 1, 1, 0)], ([((-9223372036854775808), 9223372036854775807)], []), [38], [(0, (0, 0, 0, 13), (0, 0, 0, 0))], ([(some (0, 2, 1, 0), ([((-9223372036854775808), 9223372036854775807), ((-1), 9)], []), [38], [])], []))
def gc_H25 : List tk_Hd := [(2, [(0, (2, 0, 0, 0)), (1, (1, 1, 1, 0)), (3, (0, 2, 1, 0))], ([((-9223372036854775808), 9223372036854775807), (0, 10)], []), [38], [(0, (0, 0, 0, 13), (0, 0, 0, 0))], [(0, 0, (0, 0, 0, 0)), (1, 10, (0, 2, 1, 0)), (0, 0, (0, 0, 0, 0))])]
theorem gc_25 (hU : gc_U tw) (hxt : tk_xtok xt) : tk_KS l D gk_cl gk_tbl gk_xw xt gk_MN gk_P gc_TY ro (gc_X tw) ads tw 1 gc_K25 := tk_contract (hk := tk_hk0) tk_hk0_ok (gc_xs hU) hxt gk_rok [] 9000 0 3 (Ks := []) (d := 0) (fun _ h => absurd h List.not_mem_nil) (Hs := gc_H25) (by decide +kernel) rfl
/-- Reader.fail -/
def gc_K26 : tk_K := (107, [(2, 0, 0, 0), (0, 1, 1, 0)], ([(3, 6), ((-1), 7)], []), [6], [(0, (0, 0, 0, 10), (0, 2, 1, 0))], ([(none, ([(3, 6), ((-1), (-1))], []), [6], [(0, (0, 0, 0, 10), (0, 2, 1, 0))]), (none, ([(3, 6), (0, 7), (1, 7)], []), [6], [(0, (0, 0, 0, 10), (0, 3, 1, 0))])], [(6, 10), (6, 11)]))
def gc_H26 : List tk_Hd := []
theorem gc_26 (hU : gc_U tw) (hxt : tk_xtok xt) : tk_KS l D gk_cl gk_tbl gk_xw xt gk_MN gk_P gc_TY ro (gc_X tw) ads tw 1 gc_K26 := tk_contract (hk := tk_hk0) tk_hk0_ok (gc_xs hU) hxt gk_rok [] 9000 0 0 (Ks := []) (d := 0) (fun _ h => absurd h List.not_mem_nil) (Hs := gc_H26) (by decide +kernel) rfl
/-- Crew.named -/
def gc_K27 : tk_K := (5, [(2, 0, 0, 0), (1, 1, 1, 0)], ([((-9223372036854775808), 9223372036854775807)], []), [49], [], ([(some (0, 2, 1, 0), ([((-9223372036854775808), 9223372036854775807), ((-1), 7)], []), [49], [])], []))
def gc_H27 : List tk_Hd := [(2, [(0, (2, 0, 0, 0)), (1, (1, 1, 1, 0)), (3, (0, 2, 1, 0))], ([((-9223372036854775808), 9223372036854775807), (0, 8)], []), [49], [], [(0, 0, (0, 0, 0, 0)), (1, 8, (0, 2, 1, 0)), (0, 0, (0, 0, 0, 0))])]
theorem gc_27 (hU : gc_U tw) (hxt : tk_xtok xt) : tk_KS l D gk_cl gk_tbl gk_xw xt gk_MN gk_P gc_TY ro (gc_X tw) ads tw 1 gc_K27 := tk_contract (hk := tk_hk0) tk_hk0_ok (gc_xs hU) hxt gk_rok [] 9000 0 3 (Ks := []) (d := 0) (fun _ h => absurd h List.not_mem_nil) (Hs := gc_H27) (by decide +kernel) rfl
/-- LakeText.readNewName -/
def gc_K28 : tk_K := (66, [(2, 0, 0, 0), (2, 1, 0, 0)], ([], []), [9, 38], [(1, (0, 0, 0, 13), (0, 0, 0, 0))], ([(some (1, 1, 1, 0), ([((-9223372036854775808), 9223372036854775807)], []), [9, 38], [])], [(6, 4), (6, 5), (6, 6), (6, 7), (6, 8), (6, 9), (6, 10), (6, 11)]))
def gc_H28 : List tk_Hd := []
theorem gc_28 (hU : gc_U tw) (hxt : tk_xtok xt) : tk_KS l D gk_cl gk_tbl gk_xw xt gk_MN gk_P gc_TY ro (gc_X tw) ads tw 5 gc_K28 := tk_contract (hk := tk_hk0) tk_hk0_ok (gc_xs hU) hxt gk_rok [] 9000 0 0 (Ks := [gc_K24, gc_K25, gc_K26, gc_K12, gc_K27]) (d := 4) (List.forall_mem_cons.mpr ⟨tk_KS_up (by decide) (gc_24 hU hxt), (List.forall_mem_cons.mpr ⟨tk_KS_up (by decide) (gc_25 hU hxt), (List.forall_mem_cons.mpr ⟨tk_KS_up (by decide) (gc_26 hU hxt), (List.forall_mem_cons.mpr ⟨tk_KS_up (by decide) (gc_12 hU hxt), (List.forall_mem_cons.mpr ⟨tk_KS_up (by decide) (gc_27 hU hxt), (fun _ h => absurd h List.not_mem_nil)⟩)⟩)⟩)⟩)⟩) (Hs := gc_H28) (by decide +kernel) rfl
/-- Reader.passSign -/
def gc_K29 : tk_K := (110, [(2, 0, 0, 0), (0, 0, 0, 59)], ([((-1), 7)], []), [6], [(0, (0, 0, 0, 10), (0, 1, 1, 0))], ([(some (0, 0, 0, 0), ([((-1), (-1))], []), [6], [(0, (0, 0, 0, 10), (0, 1, 1, 0))]), (some (0, 0, 0, 0), ([(0, 7), (1, 7)], []), [6], [(0, (0, 0, 0, 10), (0, 2, 1, 0))]), (some (0, 0, 0, 1), ([(0, 0)], []), [6], [(0, (0, 0, 0, 10), (0, 1, 1, 0))])], [(6, 4), (6, 5), (6, 6), (6, 7), (6, 8), (6, 9), (6, 10), (6, 11)]))
def gc_H29 : List tk_Hd := []
theorem gc_29 (hU : gc_U tw) (hxt : tk_xtok xt) : tk_KS l D gk_cl gk_tbl gk_xw xt gk_MN gk_P gc_TY ro (gc_X tw) ads tw 5 gc_K29 := tk_contract (hk := tk_hk0) tk_hk0_ok (gc_xs hU) hxt gk_rok [] 9000 0 0 (Ks := [gc_K23, gc_K12]) (d := 4) (List.forall_mem_cons.mpr ⟨tk_KS_up (by decide) (gc_23 hU hxt), (List.forall_mem_cons.mpr ⟨tk_KS_up (by decide) (gc_12 hU hxt), (fun _ h => absurd h List.not_mem_nil)⟩)⟩) (Hs := gc_H29) (by decide +kernel) rfl
/-- Lake.addCell -/
def gc_K30 : tk_K := (32, [(2, 0, 0, 0), (1, 1, 1, 0), (0, 2, 1, 0), (0, 3, 1, 0)], ([((-9223372036854775808), 9223372036854775807), (0, 1), (0, 200)], []), [38], [(0, (0, 0, 0, 13), (0, 0, 0, 0))], ([(none, ([((-9223372036854775808), 9223372036854775807), (0, 1), (0, 200), (1, 10)], []), [38], [(0, (0, 0, 0, 8), (0, 4, 1, 0))])], [(38, 8), (38, 9), (39, 0), (45, 0)]))
def gc_H30 : List tk_Hd := []
theorem gc_30 (hU : gc_U tw) (hxt : tk_xtok xt) : tk_KS l D gk_cl gk_tbl gk_xw xt gk_MN gk_P gc_TY ro (gc_X tw) ads tw 1 gc_K30 := tk_contract (hk := tk_hk0) tk_hk0_ok (gc_xs hU) hxt gk_rok [] 9000 0 0 (Ks := []) (d := 0) (fun _ h => absurd h List.not_mem_nil) (Hs := gc_H30) (by decide +kernel) rfl
/-- Reader.passWord -/
def gc_K31 : tk_K := (109, [(2, 0, 0, 0), (0, 1, 1, 0)], ([(1, 18)], []), [6], [], ([(none, ([(1, 18)], []), [6], [])], [(6, 4), (6, 5), (6, 6), (6, 7), (6, 8), (6, 9), (6, 10), (6, 11)]))
def gc_H31 : List tk_Hd := []
theorem gc_31 (hU : gc_U tw) (hxt : tk_xtok xt) : tk_KS l D gk_cl gk_tbl gk_xw xt gk_MN gk_P gc_TY ro (gc_X tw) ads tw 5 gc_K31 := tk_contract (hk := tk_hk0) tk_hk0_ok (gc_xs hU) hxt gk_rok [] 9000 0 0 (Ks := [gc_K23, gc_K12]) (d := 4) (List.forall_mem_cons.mpr ⟨tk_KS_up (by decide) (gc_23 hU hxt), (List.forall_mem_cons.mpr ⟨tk_KS_up (by decide) (gc_12 hU hxt), (fun _ h => absurd h List.not_mem_nil)⟩)⟩) (Hs := gc_H31) (by decide +kernel) rfl
/-- Reader.passNumber -/
def gc_K32 : tk_K := (111, [(2, 0, 0, 0), (0, 0, 0, 0), (0, 0, 0, 200)], ([((-1), 7)], []), [6], [(0, (0, 0, 0, 10), (0, 1, 1, 0))], ([(some (0, 2, 1, 0), ([((-1), 7), (0, 200)], []), [6], [(0, (0, 0, 0, 10), (0, 1, 1, 0))]), (some (0, 2, 1, 0), ([((-1), (-1)), ((-2147483648), 2147483647), (0, 4)], []), [6], [(0, (0, 0, 0, 6), (0, 3, 1, 0)), (0, (0, 0, 0, 10), (0, 1, 1, 0))]), (some (0, 2, 1, 0), ([(0, 7), ((-2147483648), 2147483647), (0, 4), (1, 7)], []), [6], [(0, (0, 0, 0, 6), (0, 3, 1, 0)), (0, (0, 0, 0, 10), (0, 4, 1, 0))])], [(6, 4), (6, 5), (6, 6), (6, 7), (6, 8), (6, 9), (6, 10), (6, 11)]))
def gc_H32 : List tk_Hd := []
theorem gc_32 (hU : gc_U tw) (hxt : tk_xtok xt) : tk_KS l D gk_cl gk_tbl gk_xw xt gk_MN gk_P gc_TY ro (gc_X tw) ads tw 5 gc_K32 := tk_contract (hk := tk_hk0) tk_hk0_ok (gc_xs hU) hxt gk_rok [] 9000 0 0 (Ks := [gc_K26, gc_K12, gc_K23]) (d := 4) (List.forall_mem_cons.mpr ⟨tk_KS_up (by decide) (gc_26 hU hxt), (List.forall_mem_cons.mpr ⟨tk_KS_up (by decide) (gc_12 hU hxt), (List.forall_mem_cons.mpr ⟨tk_KS_up (by decide) (gc_23 hU hxt), (fun _ h => absurd h List.not_mem_nil)⟩)⟩)⟩) (Hs := gc_H32) (by decide +kernel) rfl
/-- LakeText.readCell -/
def gc_K33 : tk_K := (67, [(2, 0, 0, 0), (2, 1, 0, 0), (0, 1, 1, 0)], ([(0, 1)], []), [9, 38], [(1, (0, 0, 0, 13), (0, 0, 0, 0))], ([(none, ([(0, 1)], []), [9, 38], [])], [(6, 4), (6, 5), (6, 6), (6, 7), (6, 8), (6, 9), (6, 10), (6, 11), (38, 8), (38, 9), (39, 0), (45, 0)]))
def gc_H33 : List tk_Hd := []
theorem gc_33 (hU : gc_U tw) (hxt : tk_xtok xt) : tk_KS l D gk_cl gk_tbl gk_xw xt gk_MN gk_P gc_TY ro (gc_X tw) ads tw 6 gc_K33 := tk_contract (hk := tk_hk0) tk_hk0_ok (gc_xs hU) hxt gk_rok [] 9000 0 0 (Ks := [gc_K12, gc_K28, gc_K29, gc_K30, gc_K31, gc_K32, gc_K26]) (d := 5) (List.forall_mem_cons.mpr ⟨tk_KS_up (by decide) (gc_12 hU hxt), (List.forall_mem_cons.mpr ⟨tk_KS_up (by decide) (gc_28 hU hxt), (List.forall_mem_cons.mpr ⟨tk_KS_up (by decide) (gc_29 hU hxt), (List.forall_mem_cons.mpr ⟨tk_KS_up (by decide) (gc_30 hU hxt), (List.forall_mem_cons.mpr ⟨tk_KS_up (by decide) (gc_31 hU hxt), (List.forall_mem_cons.mpr ⟨tk_KS_up (by decide) (gc_32 hU hxt), (List.forall_mem_cons.mpr ⟨tk_KS_up (by decide) (gc_26 hU hxt), (fun _ h => absurd h List.not_mem_nil)⟩)⟩)⟩)⟩)⟩)⟩)⟩) (Hs := gc_H33) (by decide +kernel) rfl
/-- Reader.passNumber -/
def gc_K34 : tk_K := (111, [(2, 0, 0, 0), (0, 0, 0, 0), (0, 0, 0, 20)], ([((-1), 7)], []), [6], [(0, (0, 0, 0, 10), (0, 1, 1, 0))], ([(some (0, 2, 1, 0), ([((-1), 7), (0, 20)], []), [6], [(0, (0, 0, 0, 10), (0, 1, 1, 0))]), (some (0, 2, 1, 0), ([((-1), (-1)), ((-2147483648), 2147483647), (0, 4)], []), [6], [(0, (0, 0, 0, 6), (0, 3, 1, 0)), (0, (0, 0, 0, 10), (0, 1, 1, 0))]), (some (0, 2, 1, 0), ([(0, 7), ((-2147483648), 2147483647), (0, 4), (1, 7)], []), [6], [(0, (0, 0, 0, 6), (0, 3, 1, 0)), (0, (0, 0, 0, 10), (0, 4, 1, 0))])], [(6, 4), (6, 5), (6, 6), (6, 7), (6, 8), (6, 9), (6, 10), (6, 11)]))
def gc_H34 : List tk_Hd := []
theorem gc_34 (hU : gc_U tw) (hxt : tk_xtok xt) : tk_KS l D gk_cl gk_tbl gk_xw xt gk_MN gk_P gc_TY ro (gc_X tw) ads tw 5 gc_K34 := tk_contract (hk := tk_hk0) tk_hk0_ok (gc_xs hU) hxt gk_rok [] 9000 0 0 (Ks := [gc_K26, gc_K12, gc_K23]) (d := 4) (List.forall_mem_cons.mpr ⟨tk_KS_up (by decide) (gc_26 hU hxt), (List.forall_mem_cons.mpr ⟨tk_KS_up (by decide) (gc_12 hU hxt), (List.forall_mem_cons.mpr ⟨tk_KS_up (by decide) (gc_23 hU hxt), (fun _ h => absurd h List.not_mem_nil)⟩)⟩)⟩) (Hs := gc_H34) (by decide +kernel) rfl
/-- LakeText.readSetting -/
def gc_K35 : tk_K := (70, [(2, 0, 0, 0), (0, 0, 0, 0), (0, 1, 1, 0)], ([(0, 20)], []), [9], [], ([(some (0, 2, 1, 0), ([(0, 20), (0, 20)], []), [9], [])], [(6, 4), (6, 5), (6, 6), (6, 7), (6, 8), (6, 9), (6, 10), (6, 11), (9, 1)]))
def gc_H35 : List tk_Hd := []
theorem gc_35 (hU : gc_U tw) (hxt : tk_xtok xt) : tk_KS l D gk_cl gk_tbl gk_xw xt gk_MN gk_P gc_TY ro (gc_X tw) ads tw 6 gc_K35 := tk_contract (hk := tk_hk0) tk_hk0_ok (gc_xs hU) hxt gk_rok [] 9000 0 0 (Ks := [gc_K12, gc_K34, gc_K29, gc_K26]) (d := 5) (List.forall_mem_cons.mpr ⟨tk_KS_up (by decide) (gc_12 hU hxt), (List.forall_mem_cons.mpr ⟨tk_KS_up (by decide) (gc_34 hU hxt), (List.forall_mem_cons.mpr ⟨tk_KS_up (by decide) (gc_29 hU hxt), (List.forall_mem_cons.mpr ⟨tk_KS_up (by decide) (gc_26 hU hxt), (fun _ h => absurd h List.not_mem_nil)⟩)⟩)⟩)⟩) (Hs := gc_H35) (by decide +kernel) rfl
/-- Reader.passNumber -/
def gc_K36 : tk_K := (111, [(2, 0, 0, 0), (0, 0, 0, 1), (0, 0, 0, 20)], ([((-1), 7)], []), [6], [(0, (0, 0, 0, 10), (0, 1, 1, 0))], ([(some (0, 2, 1, 0), ([((-1), 7), (1, 20)], []), [6], [(0, (0, 0, 0, 10), (0, 1, 1, 0))]), (some (0, 2, 1, 0), ([((-1), (-1)), ((-2147483648), 2147483647), (0, 4)], []), [6], [(0, (0, 0, 0, 6), (0, 3, 1, 0)), (0, (0, 0, 0, 10), (0, 1, 1, 0))]), (some (0, 2, 1, 0), ([(0, 7), ((-2147483648), 2147483647), (0, 4), (1, 7)], []), [6], [(0, (0, 0, 0, 6), (0, 3, 1, 0)), (0, (0, 0, 0, 10), (0, 4, 1, 0))])], [(6, 4), (6, 5), (6, 6), (6, 7), (6, 8), (6, 9), (6, 10), (6, 11)]))
def gc_H36 : List tk_Hd := []
theorem gc_36 (hU : gc_U tw) (hxt : tk_xtok xt) : tk_KS l D gk_cl gk_tbl gk_xw xt gk_MN gk_P gc_TY ro (gc_X tw) ads tw 5 gc_K36 := tk_contract (hk := tk_hk0) tk_hk0_ok (gc_xs hU) hxt gk_rok [] 9000 0 0 (Ks := [gc_K26, gc_K12, gc_K23]) (d := 4) (List.forall_mem_cons.mpr ⟨tk_KS_up (by decide) (gc_26 hU hxt), (List.forall_mem_cons.mpr ⟨tk_KS_up (by decide) (gc_12 hU hxt), (List.forall_mem_cons.mpr ⟨tk_KS_up (by decide) (gc_23 hU hxt), (fun _ h => absurd h List.not_mem_nil)⟩)⟩)⟩) (Hs := gc_H36) (by decide +kernel) rfl
/-- LakeText.readSetting -/
def gc_K37 : tk_K := (70, [(2, 0, 0, 0), (0, 0, 0, 1), (0, 1, 1, 0)], ([(1, 20)], []), [9], [], ([(some (0, 2, 1, 0), ([(1, 20), (1, 20)], []), [9], [])], [(6, 4), (6, 5), (6, 6), (6, 7), (6, 8), (6, 9), (6, 10), (6, 11), (9, 1)]))
def gc_H37 : List tk_Hd := []
theorem gc_37 (hU : gc_U tw) (hxt : tk_xtok xt) : tk_KS l D gk_cl gk_tbl gk_xw xt gk_MN gk_P gc_TY ro (gc_X tw) ads tw 6 gc_K37 := tk_contract (hk := tk_hk0) tk_hk0_ok (gc_xs hU) hxt gk_rok [] 9000 0 0 (Ks := [gc_K12, gc_K36, gc_K29, gc_K26]) (d := 5) (List.forall_mem_cons.mpr ⟨tk_KS_up (by decide) (gc_12 hU hxt), (List.forall_mem_cons.mpr ⟨tk_KS_up (by decide) (gc_36 hU hxt), (List.forall_mem_cons.mpr ⟨tk_KS_up (by decide) (gc_29 hU hxt), (List.forall_mem_cons.mpr ⟨tk_KS_up (by decide) (gc_26 hU hxt), (fun _ h => absurd h List.not_mem_nil)⟩)⟩)⟩)⟩) (Hs := gc_H37) (by decide +kernel) rfl
end GC3
end MH29_1
