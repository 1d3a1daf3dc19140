section MH31_0
section GC4
variable {l : Launch} {D : va_G} {xt : tk_XT} {ro : Nat → Nat → Int → Prop} {ads tw : List Nat}
/-- Reader.passNumber -/
def gc_K38 : tk_K := (111, [(2, 0, 0, 0), (0, 0, 0, 1), (0, 0, 0, 99)], ([((-1), 7)], []), [6], [(0, (0, 0, 0, 10), (0, 1, 1, 0))], ([(some (0, 2, 1, 0), ([((-1), 7), (1, 99)], []), [6], [(0, (0, 0, 0, 10), (0, 1, 1, 0))]), (some (0, 2, 1, 0), ([((-1), (-1)), ((-2147483648), 2147483647), (0, 4)], []), [6], [(0, (0, 0, 0, 6), (0, 3, 1, 0)), (0, (0, 0, 0, 10), (0, 1, 1, 0))]), (some (0, 2, 1, 0), ([(0, 7), ((-2147483648), 2147483647), (0, 4), (1, 7)], []), [6], [(0, (0, 0, 0, 6), (0, 3, 1, 0)), (0, (0, 0, 0, 10), (0, 4, 1, 0))])], [(6, 4), (6, 5), (6, 6), (6, 7), (6, 8), (6, 9), (6, 10), (6, 11)]))
def gc_H38 : List tk_Hd := []
theorem gc_38 (hU : gc_U tw) (hxt : tk_xtok xt) : tk_KS l D gk_cl gk_tbl gk_xw xt gk_MN gk_P gc_TY ro (gc_X tw) ads tw 5 gc_K38 := tk_contract (hk := tk_hk0) tk_hk0_ok (gc_xs hU) hxt gk_rok [] 9000 0 0 (Ks := [gc_K26, gc_K12, gc_K23]) (d := 4) (List.forall_mem_cons.mpr ⟨tk_KS_up (by decide) (gc_26 hU hxt), (List.forall_mem_cons.mpr ⟨tk_KS_up (by decide) (gc_12 hU hxt), (List.forall_mem_cons.mpr ⟨tk_KS_up (by decide) (gc_23 hU hxt), (fun _ h => absurd h List.not_mem_nil)⟩)⟩)⟩) (Hs := gc_H38) (by decide +kernel) rfl
/-- Reader.cellHere -/
def gc_K39 : tk_K := (113, [(2, 0, 0, 0), (2, 1, 0, 0)], ([], []), [6, 38], [(1, (0, 0, 0, 13), (0, 0, 0, 0))], ([(some (0, 1, 1, 0), ([((-1), 9)], []), [6, 38], [])], [(6, 10), (6, 11)]))
def gc_H39 : List tk_Hd := []
theorem gc_39 (hU : gc_U tw) (hxt : tk_xtok xt) : tk_KS l D gk_cl gk_tbl gk_xw xt gk_MN gk_P gc_TY ro (gc_X tw) ads tw 5 gc_K39 := tk_contract (hk := tk_hk0) tk_hk0_ok (gc_xs hU) hxt gk_rok [] 9000 0 0 (Ks := [gc_K24, gc_K25, gc_K26]) (d := 4) (List.forall_mem_cons.mpr ⟨tk_KS_up (by decide) (gc_24 hU hxt), (List.forall_mem_cons.mpr ⟨tk_KS_up (by decide) (gc_25 hU hxt), (List.forall_mem_cons.mpr ⟨tk_KS_up (by decide) (gc_26 hU hxt), (fun _ h => absurd h List.not_mem_nil)⟩)⟩)⟩) (Hs := gc_H39) (by decide +kernel) rfl
/-- Lake.addWalker -/
def gc_K40 : tk_K := (33, [(2, 0, 0, 0), (1, 1, 1, 0), (0, 2, 1, 0), (0, 3, 1, 0)], ([((-9223372036854775808), 9223372036854775807), ((-2147483648), 2147483647), (0, 9), (1, 10)], []), [38], [(0, (0, 0, 0, 13), (0, 0, 0, 0)), (0, (0, 0, 0, 8), (0, 4, 1, 0))], ([(none, ([((-9223372036854775808), 9223372036854775807), ((-2147483648), 2147483647), (0, 9), (1, 10)], []), [38], [])], [(42, 0), (49, 7), (50, 0), (51, 0), (52, 0)]))
def gc_H40 : List tk_Hd := []
theorem gc_40 (hU : gc_U tw) (hxt : tk_xtok xt) : tk_KS l D gk_cl gk_tbl gk_xw xt gk_MN gk_P gc_TY ro (gc_X tw) ads tw 2 gc_K40 := tk_contract (hk := tk_hk0) tk_hk0_ok (gc_xs hU) hxt gk_rok [34] 9000 1 0 (Ks := []) (d := 0) (fun _ h => absurd h List.not_mem_nil) (Hs := gc_H40) (by decide +kernel) rfl
/-- LakeText.readWalker -/
def gc_K41 : tk_K := (69, [(2, 0, 0, 0), (2, 1, 0, 0)], ([], []), [9, 38], [(1, (0, 0, 0, 13), (0, 0, 0, 0))], ([(none, ([], []), [9, 38], [])], [(6, 4), (6, 5), (6, 6), (6, 7), (6, 8), (6, 9), (6, 10), (6, 11), (42, 0), (49, 7), (50, 0), (51, 0), (52, 0)]))
def gc_H41 : List tk_Hd := []
theorem gc_41 (hU : gc_U tw) (hxt : tk_xtok xt) : tk_KS l D gk_cl gk_tbl gk_xw xt gk_MN gk_P gc_TY ro (gc_X tw) ads tw 8 gc_K41 := tk_contract (hk := tk_hk0) tk_hk0_ok (gc_xs hU) hxt gk_rok [34, 35] 9000 2 0 (Ks := [gc_K12, gc_K28, gc_K31, gc_K38, gc_K39, gc_K26, gc_K29, gc_K40]) (d := 5) (List.forall_mem_cons.mpr ⟨tk_KS_up (by decide) (gc_12 hU hxt), (List.forall_mem_cons.mpr ⟨tk_KS_up (by decide) (gc_28 hU hxt), (List.forall_mem_cons.mpr ⟨tk_KS_up (by decide) (gc_31 hU hxt), (List.forall_mem_cons.mpr ⟨tk_KS_up (by decide) (gc_38 hU hxt), (List.forall_mem_cons.mpr ⟨tk_KS_up (by decide) (gc_39 hU hxt), (List.forall_mem_cons.mpr ⟨tk_KS_up (by decide) (gc_26 hU hxt), (List.forall_mem_cons.mpr ⟨tk_KS_up (by decide) (gc_29 hU hxt), (List.forall_mem_cons.mpr ⟨tk_KS_up (by decide) (gc_40 hU hxt), (fun _ h => absurd h List.not_mem_nil)⟩)⟩)⟩)⟩)⟩)⟩)⟩)⟩) (Hs := gc_H41) (by decide +kernel) rfl
/-- LakeText.readPair -/
def gc_K42 : tk_K := (68, [(2, 0, 0, 0), (2, 1, 0, 0), (0, 1, 1, 0)], ([(0, 1)], []), [9, 38], [(1, (0, 0, 0, 13), (0, 0, 0, 0))], ([(none, ([(0, 1)], []), [9, 38], [])], [(6, 4), (6, 5), (6, 6), (6, 7), (6, 8), (6, 9), (6, 10), (6, 11), (40, 0), (41, 0)]))
def gc_H42 : List tk_Hd := []
theorem gc_42 (hU : gc_U tw) (hxt : tk_xtok xt) : tk_KS l D gk_cl gk_tbl gk_xw xt gk_MN gk_P gc_TY ro (gc_X tw) ads tw 8 gc_K42 := tk_contract (hk := tk_hk0) tk_hk0_ok (gc_xs hU) hxt gk_rok [34, 35, 37] 9000 2 0 (Ks := [gc_K12, gc_K39, gc_K26, gc_K29]) (d := 5) (List.forall_mem_cons.mpr ⟨tk_KS_up (by decide) (gc_12 hU hxt), (List.forall_mem_cons.mpr ⟨tk_KS_up (by decide) (gc_39 hU hxt), (List.forall_mem_cons.mpr ⟨tk_KS_up (by decide) (gc_26 hU hxt), (List.forall_mem_cons.mpr ⟨tk_KS_up (by decide) (gc_29 hU hxt), (fun _ h => absurd h List.not_mem_nil)⟩)⟩)⟩)⟩) (Hs := gc_H42) (by decide +kernel) rfl
end GC4
end MH31_0
section MH31_1
section GC5
variable {l : Launch} {D : va_G} {xt : tk_XT} {ro : Nat → Nat → Int → Prop} {ads tw : List Nat}
/-- LakeText.readPart -/
def gc_K43 : tk_K := (65, [(2, 0, 0, 0), (2, 1, 0, 0)], ([], []), [9, 38], [(1, (0, 0, 0, 13), (0, 0, 0, 0))], ([(none, ([], []), [9, 38], [])], [(6, 4), (6, 5), (6, 6), (6, 7), (6, 8), (6, 9), (6, 10), (6, 11), (9, 1), (38, 8), (38, 9), (38, 10), (38, 11), (38, 12), (39, 0), (40, 0), (41, 0), (42, 0), (45, 0), (49, 7), (50, 0), (51, 0), (52, 0)]))
def gc_H43 : List tk_Hd := []
theorem gc_43 (hU : gc_U tw) (hxt : tk_xtok xt) : tk_KS l D gk_cl gk_tbl gk_xw xt gk_MN gk_P gc_TY ro (gc_X tw) ads tw 9 gc_K43 := tk_contract (hk := tk_hk0) tk_hk0_ok (gc_xs hU) hxt gk_rok [] 9000 0 0 (Ks := [gc_K33, gc_K23, gc_K35, gc_K37, gc_K41, gc_K42]) (d := 8) (List.forall_mem_cons.mpr ⟨tk_KS_up (by decide) (gc_33 hU hxt), (List.forall_mem_cons.mpr ⟨tk_KS_up (by decide) (gc_23 hU hxt), (List.forall_mem_cons.mpr ⟨tk_KS_up (by decide) (gc_35 hU hxt), (List.forall_mem_cons.mpr ⟨tk_KS_up (by decide) (gc_37 hU hxt), (List.forall_mem_cons.mpr ⟨tk_KS_up (by decide) (gc_41 hU hxt), (List.forall_mem_cons.mpr ⟨tk_KS_up (by decide) (gc_42 hU hxt), (fun _ h => absurd h List.not_mem_nil)⟩)⟩)⟩)⟩)⟩)⟩) (Hs := gc_H43) (by decide +kernel) rfl
/-- LakeText.parse -/
def gc_K44 : tk_K := (64, [(2, 0, 0, 0), (2, 1, 0, 0)], ([], []), [9, 38], [], ([(none, ([], []), [9, 38], [(1, (0, 0, 0, 13), (0, 0, 0, 0))])], [(6, 4), (6, 5), (6, 6), (6, 7), (6, 8), (6, 9), (6, 10), (6, 11), (9, 1), (38, 8), (38, 9), (38, 10), (38, 11), (38, 12), (38, 13), (39, 0), (40, 0), (41, 0), (42, 0), (44, 4), (44, 5), (45, 0), (46, 0), (47, 0), (48, 0), (49, 7), (49, 8), (49, 9), (50, 0), (51, 0), (52, 0), (53, 0)]))
def gc_H44 : List tk_Hd := [(11, [(0, (2, 0, 0, 0)), (1, (2, 1, 0, 0)), (2, (0, 1, 1, 0))], ([(0, 900)], []), [9, 38], [(1, (0, 0, 0, 13), (0, 0, 0, 0))], [(0, 0, (0, 0, 0, 0)), (1, 900, (0, 1, 1, 0)), (0, 0, (0, 0, 0, 0))])]
theorem gc_44 (hU : gc_U tw) (hxt : tk_xtok xt) : tk_KS l D gk_cl gk_tbl gk_xw xt gk_MN gk_P gc_TY ro (gc_X tw) ads tw 10 gc_K44 := tk_contract (hk := tk_hk0) tk_hk0_ok (gc_xs hU) hxt gk_rok [] 9000 0 3 (Ks := [gc_K22, gc_K43]) (d := 9) (List.forall_mem_cons.mpr ⟨tk_KS_up (by decide) (gc_22 hU hxt), (List.forall_mem_cons.mpr ⟨tk_KS_up (by decide) (gc_43 hU hxt), (fun _ h => absurd h List.not_mem_nil)⟩)⟩) (Hs := gc_H44) (by decide +kernel) rfl
/-- Ice.copyFrom -/
def gc_K45 : tk_K := (25, [(2, 0, 0, 0), (2, 1, 0, 0)], ([], []), [18, 44], [], ([(none, ([], []), [18, 44], [])], [(18, 4), (18, 5), (19, 0), (20, 0), (21, 0), (22, 0)]))
def gc_H45 : List tk_Hd := []
theorem gc_45 (hU : gc_U tw) (hxt : tk_xtok xt) : tk_KS l D gk_cl gk_tbl gk_xw xt gk_MN gk_P gc_TY ro (gc_X tw) ads tw 1 gc_K45 := tk_contract (hk := tk_hk0) tk_hk0_ok (gc_xs hU) hxt gk_rok [] 9000 0 0 (Ks := []) (d := 0) (fun _ h => absurd h List.not_mem_nil) (Hs := gc_H45) (by decide +kernel) rfl
/-- Crew.copyFrom -/
def gc_K46 : tk_K := (2, [(2, 0, 0, 0), (2, 1, 0, 0)], ([], []), [23, 49], [], ([(none, ([], []), [23, 49], [])], [(23, 7), (23, 8), (23, 9), (24, 0), (25, 0), (26, 0), (27, 0), (28, 0), (29, 0), (30, 0)]))
def gc_H46 : List tk_Hd := []
theorem gc_46 (hU : gc_U tw) (hxt : tk_xtok xt) : tk_KS l D gk_cl gk_tbl gk_xw xt gk_MN gk_P gc_TY ro (gc_X tw) ads tw 1 gc_K46 := tk_contract (hk := tk_hk0) tk_hk0_ok (gc_xs hU) hxt gk_rok [] 9000 0 0 (Ks := []) (d := 0) (fun _ h => absurd h List.not_mem_nil) (Hs := gc_H46) (by decide +kernel) rfl
/-- Lake.copyFrom -/
def gc_K47 : tk_K := (31, [(2, 0, 0, 0), (2, 1, 0, 0)], ([], []), [12, 38], [(1, (0, 0, 0, 13), (0, 0, 0, 0))], ([(none, ([], []), [12, 38], [(0, (0, 0, 0, 13), (0, 0, 0, 0))])], [(12, 8), (12, 9), (12, 10), (12, 11), (12, 12), (12, 13), (13, 0), (14, 0), (15, 0), (16, 0), (18, 4), (18, 5), (19, 0), (20, 0), (21, 0), (22, 0), (23, 7), (23, 8), (23, 9), (24, 0), (25, 0), (26, 0), (27, 0), (28, 0), (29, 0), (30, 0)]))
def gc_H47 : List tk_Hd := []
theorem gc_47 (hU : gc_U tw) (hxt : tk_xtok xt) : tk_KS l D gk_cl gk_tbl gk_xw xt gk_MN gk_P gc_TY ro (gc_X tw) ads tw 2 gc_K47 := tk_contract (hk := tk_hk0) tk_hk0_ok (gc_xs hU) hxt gk_rok [] 9000 0 0 (Ks := [gc_K45, gc_K46]) (d := 1) (List.forall_mem_cons.mpr ⟨tk_KS_up (by decide) (gc_45 hU hxt), (List.forall_mem_cons.mpr ⟨tk_KS_up (by decide) (gc_46 hU hxt), (fun _ h => absurd h List.not_mem_nil)⟩)⟩) (Hs := gc_H47) (by decide +kernel) rfl
/-- Tales.clear -/
def gc_K48 : tk_K := (116, [(2, 0, 0, 0)], ([], []), [31], [], ([(none, ([], []), [31], [(0, (0, 0, 0, 7), (0, 0, 0, 0))])], [(31, 6), (31, 7)]))
def gc_H48 : List tk_Hd := []
theorem gc_48 (hU : gc_U tw) (hxt : tk_xtok xt) : tk_KS l D gk_cl gk_tbl gk_xw xt gk_MN gk_P gc_TY ro (gc_X tw) ads tw 1 gc_K48 := tk_contract (hk := tk_hk0) tk_hk0_ok (gc_xs hU) hxt gk_rok [] 9000 0 0 (Ks := []) (d := 0) (fun _ h => absurd h List.not_mem_nil) (Hs := gc_H48) (by decide +kernel) rfl
/-- GooseIce.lake -/
def gc_K49 : tk_K := (135, [(2, 0, 0, 0), (0, 1, 1, 0)], ([((-2147483648), 2147483647)], []), [0], [], ([(some (0, 2, 1, 0), ([((-2147483648), 2147483647), ((-1), 10), (0, 9)], []), [0], [(0, (0, 0, 0, 0), (0, 3, 1, 0))])], [(0, 0), (6, 2), (6, 3), (6, 4), (6, 5), (6, 6), (6, 7), (6, 8), (6, 9), (6, 10), (6, 11), (9, 1), (12, 8), (12, 9), (12, 10), (12, 11), (12, 12), (12, 13), (13, 0), (14, 0), (15, 0), (16, 0), (18, 4), (18, 5), (19, 0), (20, 0), (21, 0), (22, 0), (23, 7), (23, 8), (23, 9), (24, 0), (25, 0), (26, 0), (27, 0), (28, 0), (29, 0), (30, 0), (31, 6), (31, 7), (38, 8), (38, 9), (38, 10), (38, 11), (38, 12), (38, 13), (39, 0), (40, 0), (41, 0), (42, 0), (44, 4), (44, 5), (45, 0), (46, 0), (47, 0), (48, 0), (49, 7), (49, 8), (49, 9), (50, 0), (51, 0), (52, 0), (53, 0)]))
def gc_H49 : List tk_Hd := []
theorem gc_49 (hU : gc_U tw) (hxt : tk_xtok xt) : tk_KS l D gk_cl gk_tbl gk_xw xt gk_MN gk_P gc_TY ro (gc_X tw) ads tw 12 gc_K49 := tk_contract (hk := tk_hk0) tk_hk0_ok (gc_xs hU) hxt gk_rok [102, 186, 187] 9000 1 0 (Ks := [gc_K12, gc_K44, gc_K47, gc_K48]) (d := 10) (List.forall_mem_cons.mpr ⟨tk_KS_up (by decide) (gc_12 hU hxt), (List.forall_mem_cons.mpr ⟨tk_KS_up (by decide) (gc_44 hU hxt), (List.forall_mem_cons.mpr ⟨tk_KS_up (by decide) (gc_47 hU hxt), (List.forall_mem_cons.mpr ⟨tk_KS_up (by decide) (gc_48 hU hxt), (fun _ h => absurd h List.not_mem_nil)⟩)⟩)⟩)⟩) (Hs := gc_H49) (by decide +kernel) rfl
/-- Tales.clear -/
def gc_K50 : tk_K := (116, [(2, 0, 0, 0)], ([], []), [57], [], ([(none, ([], []), [57], [])], [(57, 6), (57, 7)]))
def gc_H50 : List tk_Hd := []
theorem gc_50 (hU : gc_U tw) (hxt : tk_xtok xt) : tk_KS l D gk_cl gk_tbl gk_xw xt gk_MN gk_P gc_TY ro (gc_X tw) ads tw 1 gc_K50 := tk_contract (hk := tk_hk0) tk_hk0_ok (gc_xs hU) hxt gk_rok [] 9000 0 0 (Ks := []) (d := 0) (fun _ h => absurd h List.not_mem_nil) (Hs := gc_H50) (by decide +kernel) rfl
/-- TalesText.isStep -/
def gc_K51 : tk_K := (121, [(0, 1, 1, 0)], ([((-1), 22)], []), [], [], ([(some (0, 0, 0, 0), ([((-1), 21)], []), [], []), (some (0, 0, 0, 1), ([(10, 22)], []), [], [])], []))
def gc_H51 : List tk_Hd := []
theorem gc_51 (hU : gc_U tw) (hxt : tk_xtok xt) : tk_KS l D gk_cl gk_tbl gk_xw xt gk_MN gk_P gc_TY ro (gc_X tw) ads tw 1 gc_K51 := tk_contract (hk := tk_hk0) tk_hk0_ok (gc_xs hU) hxt gk_rok [] 9000 0 0 (Ks := []) (d := 0) (fun _ h => absurd h List.not_mem_nil) (Hs := gc_H51) (by decide +kernel) rfl
/-- Lake.named -/
def gc_K52 : tk_K := (38, [(2, 0, 0, 0), (1, 1, 1, 0)], ([((-9223372036854775808), 9223372036854775807)], []), [12], [], ([(some (0, 2, 1, 0), ([((-9223372036854775808), 9223372036854775807), ((-1), 9)], []), [12], [])], []))
def gc_H52 : List tk_Hd := [(2, [(0, (2, 0, 0, 0)), (1, (1, 1, 1, 0)), (3, (0, 2, 1, 0))], ([((-9223372036854775808), 9223372036854775807), (0, 10)], []), [12], [], [(0, 0, (0, 0, 0, 0)), (1, 10, (0, 2, 1, 0)), (0, 0, (0, 0, 0, 0))])]
theorem gc_52 (hU : gc_U tw) (hxt : tk_xtok xt) : tk_KS l D gk_cl gk_tbl gk_xw xt gk_MN gk_P gc_TY ro (gc_X tw) ads tw 1 gc_K52 := tk_contract (hk := tk_hk0) tk_hk0_ok (gc_xs hU) hxt gk_rok [] 9000 0 3 (Ks := []) (d := 0) (fun _ h => absurd h List.not_mem_nil) (Hs := gc_H52) (by decide +kernel) rfl
/-- Reader.cellHere -/
def gc_K53 : tk_K := (113, [(2, 0, 0, 0), (2, 1, 0, 0)], ([], []), [6, 12], [], ([(some (0, 1, 1, 0), ([((-1), 9)], []), [6, 12], [])], [(6, 10), (6, 11)]))
def gc_H53 : List tk_Hd := []
theorem gc_53 (hU : gc_U tw) (hxt : tk_xtok xt) : tk_KS l D gk_cl gk_tbl gk_xw xt gk_MN gk_P gc_TY ro (gc_X tw) ads tw 5 gc_K53 := tk_contract (hk := tk_hk0) tk_hk0_ok (gc_xs hU) hxt gk_rok [] 9000 0 0 (Ks := [gc_K24, gc_K52, gc_K26]) (d := 4) (List.forall_mem_cons.mpr ⟨tk_KS_up (by decide) (gc_24 hU hxt), (List.forall_mem_cons.mpr ⟨tk_KS_up (by decide) (gc_52 hU hxt), (List.forall_mem_cons.mpr ⟨tk_KS_up (by decide) (gc_26 hU hxt), (fun _ h => absurd h List.not_mem_nil)⟩)⟩)⟩) (Hs := gc_H53) (by decide +kernel) rfl
/-- TalesText.readCompares -/
def gc_K54 : tk_K := (125, [(2, 0, 0, 0)], ([], []), [10], [], ([(some (0, 1, 1, 0), ([((-2147483648), 2147483647)], []), [10], [])], [(6, 4), (6, 5), (6, 6), (6, 7), (6, 8), (6, 9), (6, 10), (6, 11)]))
def gc_H54 : List tk_Hd := []
theorem gc_54 (hU : gc_U tw) (hxt : tk_xtok xt) : tk_KS l D gk_cl gk_tbl gk_xw xt gk_MN gk_P gc_TY ro (gc_X tw) ads tw 5 gc_K54 := tk_contract (hk := tk_hk0) tk_hk0_ok (gc_xs hU) hxt gk_rok [] 9000 0 0 (Ks := [gc_K23, gc_K12]) (d := 4) (List.forall_mem_cons.mpr ⟨tk_KS_up (by decide) (gc_23 hU hxt), (List.forall_mem_cons.mpr ⟨tk_KS_up (by decide) (gc_12 hU hxt), (fun _ h => absurd h List.not_mem_nil)⟩)⟩) (Hs := gc_H54) (by decide +kernel) rfl
/-- Reader.passNumber -/
def gc_K55 : tk_K := (111, [(2, 0, 0, 0), (0, 0, 0, 0), (0, 0, 0, 999)], ([((-1), 7)], []), [6], [(0, (0, 0, 0, 10), (0, 1, 1, 0))], ([(some (0, 2, 1, 0), ([((-1), 7), (0, 999)], []), [6], [(0, (0, 0, 0, 10), (0, 1, 1, 0))]), (some (0, 2, 1, 0), ([((-1), (-1)), ((-2147483648), 2147483647), (0, 4)], []), [6], [(0, (0, 0, 0, 6), (0, 3, 1, 0)), (0, (0, 0, 0, 10), (0, 1, 1, 0))]), (some (0, 2, 1, 0), ([(0, 7), ((-2147483648), 2147483647), (0, 4), (1, 7)], []), [6], [(0, (0, 0, 0, 6), (0, 3, 1, 0)), (0, (0, 0, 0, 10), (0, 4, 1, 0))])], [(6, 4), (6, 5), (6, 6), (6, 7), (6, 8), (6, 9), (6, 10), (6, 11)]))
def gc_H55 : List tk_Hd := []
theorem gc_55 (hU : gc_U tw) (hxt : tk_xtok xt) : tk_KS l D gk_cl gk_tbl gk_xw xt gk_MN gk_P gc_TY ro (gc_X tw) ads tw 5 gc_K55 := tk_contract (hk := tk_hk0) tk_hk0_ok (gc_xs hU) hxt gk_rok [] 9000 0 0 (Ks := [gc_K26, gc_K12, gc_K23]) (d := 4) (List.forall_mem_cons.mpr ⟨tk_KS_up (by decide) (gc_26 hU hxt), (List.forall_mem_cons.mpr ⟨tk_KS_up (by decide) (gc_12 hU hxt), (List.forall_mem_cons.mpr ⟨tk_KS_up (by decide) (gc_23 hU hxt), (fun _ h => absurd h List.not_mem_nil)⟩)⟩)⟩) (Hs := gc_H55) (by decide +kernel) rfl
/-- Crew.named -/
def gc_K56 : tk_K := (5, [(2, 0, 0, 0), (1, 1, 1, 0)], ([((-9223372036854775808), 9223372036854775807)], []), [23], [], ([(some (0, 2, 1, 0), ([((-9223372036854775808), 9223372036854775807), ((-1), 7)], []), [23], [])], []))
def gc_H56 : List tk_Hd := [(2, [(0, (2, 0, 0, 0)), (1, (1, 1, 1, 0)), (3, (0, 2, 1, 0))], ([((-9223372036854775808), 9223372036854775807), (0, 8)], []), [23], [], [(0, 0, (0, 0, 0, 0)), (1, 8, (0, 2, 1, 0)), (0, 0, (0, 0, 0, 0))])]
theorem gc_56 (hU : gc_U tw) (hxt : tk_xtok xt) : tk_KS l D gk_cl gk_tbl gk_xw xt gk_MN gk_P gc_TY ro (gc_X tw) ads tw 1 gc_K56 := tk_contract (hk := tk_hk0) tk_hk0_ok (gc_xs hU) hxt gk_rok [] 9000 0 3 (Ks := []) (d := 0) (fun _ h => absurd h List.not_mem_nil) (Hs := gc_H56) (by decide +kernel) rfl
/-- Reader.walkerHere -/
def gc_K57 : tk_K := (114, [(2, 0, 0, 0), (2, 1, 0, 0)], ([], []), [6, 12], [(0, (0, 0, 0, 10), (0, 0, 0, 0))], ([(some (0, 1, 1, 0), ([((-1), 7)], []), [6, 12], [])], [(6, 10), (6, 11)]))
def gc_H57 : List tk_Hd := []
theorem gc_57 (hU : gc_U tw) (hxt : tk_xtok xt) : tk_KS l D gk_cl gk_tbl gk_xw xt gk_MN gk_P gc_TY ro (gc_X tw) ads tw 5 gc_K57 := tk_contract (hk := tk_hk0) tk_hk0_ok (gc_xs hU) hxt gk_rok [] 9000 0 0 (Ks := [gc_K24, gc_K56, gc_K26]) (d := 4) (List.forall_mem_cons.mpr ⟨tk_KS_up (by decide) (gc_24 hU hxt), (List.forall_mem_cons.mpr ⟨tk_KS_up (by decide) (gc_56 hU hxt), (List.forall_mem_cons.mpr ⟨tk_KS_up (by decide) (gc_26 hU hxt), (fun _ h => absurd h List.not_mem_nil)⟩)⟩)⟩) (Hs := gc_H57) (by decide +kernel) rfl
end GC5
end MH31_1
section MH31_2
section GC6
variable {l : Launch} {D : va_G} {xt : tk_XT} {ro : Nat → Nat → Int → Prop} {ads tw : List Nat}
/-- TalesText.readStep -/
def gc_K58 : tk_K := (122, [(2, 0, 0, 0), (2, 1, 0, 0), (2, 2, 0, 0)], ([], []), [10, 12, 57], [(2, (0, 0, 0, 7), (0, 0, 0, 1))], ([(none, ([], []), [10, 12, 57], [])], [(6, 4), (6, 5), (6, 6), (6, 7), (6, 8), (6, 9), (6, 10), (6, 11), (10, 2), (11, 0), (57, 6), (58, 0), (59, 0), (60, 0), (61, 0), (62, 0)]))
def gc_H58 : List tk_Hd := []
theorem gc_58 (hU : gc_U tw) (hxt : tk_xtok xt) : tk_KS l D gk_cl gk_tbl gk_xw xt gk_MN gk_P gc_TY ro (gc_X tw) ads tw 9 gc_K58 := tk_contractF (hk := tk_hk0) tk_hk0_ok (gc_xs hU) hxt gk_rok [107, 108, 123, 124] 9000 3 (Ks := [gc_K51, gc_K12, gc_K53, gc_K54, gc_K55, gc_K57, gc_K31, gc_K23, gc_K29, gc_K38, gc_K36]) (d := 5) (List.forall_mem_cons.mpr ⟨tk_KS_up (by decide) (gc_51 hU hxt), (List.forall_mem_cons.mpr ⟨tk_KS_up (by decide) (gc_12 hU hxt), (List.forall_mem_cons.mpr ⟨tk_KS_up (by decide) (gc_53 hU hxt), (List.forall_mem_cons.mpr ⟨tk_KS_up (by decide) (gc_54 hU hxt), (List.forall_mem_cons.mpr ⟨tk_KS_up (by decide) (gc_55 hU hxt), (List.forall_mem_cons.mpr ⟨tk_KS_up (by decide) (gc_57 hU hxt), (List.forall_mem_cons.mpr ⟨tk_KS_up (by decide) (gc_31 hU hxt), (List.forall_mem_cons.mpr ⟨tk_KS_up (by decide) (gc_23 hU hxt), (List.forall_mem_cons.mpr ⟨tk_KS_up (by decide) (gc_29 hU hxt), (List.forall_mem_cons.mpr ⟨tk_KS_up (by decide) (gc_38 hU hxt), (List.forall_mem_cons.mpr ⟨tk_KS_up (by decide) (gc_36 hU hxt), (fun _ h => absurd h List.not_mem_nil)⟩)⟩)⟩)⟩)⟩)⟩)⟩)⟩)⟩)⟩)⟩) (by decide +kernel) rfl
end GC6
end MH31_2
