section GC2
variable {l : Launch} {D : va_G} {xt : tk_XT} {ro : Nat → Nat → Int → Prop} {ads tw : List Nat}
/-- LakeText.parse -/
def gc_K44 : tk_K := (64, [(2, 0, 0, 0), (2, 1, 0, 0)], ([], []), [9, 38], [], ([(none, ([], []), [9, 38], [(1, (0, 0, 0, 13), (0, 0, 0, 0))])], [(6, 4), (6, 5), (6, 6), (6, 7), (6, 8), (6, 9), (6, 10), (6, 11), (9, 1), (38, 8), (38, 9), (38, 10), (38, 11), (38, 12), (38, 13), (39, 0), (40, 0), (41, 0), (42, 0), (44, 4), (44, 5), (45, 0), (46, 0), (47, 0), (48, 0), (49, 7), (49, 8), (49, 9), (50, 0), (51, 0), (52, 0), (53, 0)]))
def gc_H44 : List tk_Hd := [(11, [(0, (2, 0, 0, 0)), (1, (2, 1, 0, 0)), (2, (0, 1, 1, 0))], ([(0, 900)], []), [9, 38], [(1, (0, 0, 0, 13), (0, 0, 0, 0))], [(0, 0, (0, 0, 0, 0)), (1, 900, (0, 1, 1, 0)), (0, 0, (0, 0, 0, 0))])]
theorem gc_44 (hU : gc_U tw) (hxt : tk_xtok xt) : tk_KS l D gk_cl gk_tbl gk_xw xt gk_MN gk_P gc_TY ro (gc_X tw) ads tw 10 gc_K44 := tk_contract (hk := tk_hk0) tk_hk0_ok (gc_xs hU) hxt gk_rok [] 9000 0 3 (Ks := [gc_K22, gc_K43]) (d := 9) (List.forall_mem_cons.mpr ⟨tk_KS_up (by decide) (gc_22 hU hxt), (List.forall_mem_cons.mpr ⟨tk_KS_up (by decide) (gc_43 hU hxt), (fun _ h => absurd h List.not_mem_nil)⟩)⟩) (Hs := gc_H44) (by decide +kernel) rfl
/-- Ice.copyFrom -/
def gc_K45 : tk_K := (25, [(2, 0, 0, 0), (2, 1, 0, 0)], ([], []), [18, 44], [], ([(none, ([], []), [18, 44], [])], [(18, 4), (18, 5), (19, 0), (20, 0), (21, 0), (22, 0)]))
def gc_H45 : List tk_Hd := []
theorem gc_45 (hU : gc_U tw) (hxt : tk_xtok xt) : tk_KS l D gk_cl gk_tbl gk_xw xt gk_MN gk_P gc_TY ro (gc_X tw) ads tw 1 gc_K45 := tk_contract (hk := tk_hk0) tk_hk0_ok (gc_xs hU) hxt gk_rok [] 9000 0 0 (Ks := []) (d := 0) (fun _ h => absurd h List.not_mem_nil) (Hs := gc_H45) (by decide +kernel) rfl
/-- Crew.copyFrom -/
def gc_K46 : tk_K := (2, [(2, 0, 0, 0), (2, 1, 0, 0)], ([], []), [23, 49], [], ([(none, ([], []), [23, 49], [])], [(23, 7), (23, 8), (23, 9), (24, 0), (25, 0), (26, 0), (27, 0), (28, 0), (29, 0), (30, 0)]))
def gc_H46 : List tk_Hd := []
theorem gc_46 (hU : gc_U tw) (hxt : tk_xtok xt) : tk_KS l D gk_cl gk_tbl gk_xw xt gk_MN gk_P gc_TY ro (gc_X tw) ads tw 1 gc_K46 := tk_contract (hk := tk_hk0) tk_hk0_ok (gc_xs hU) hxt gk_rok [] 9000 0 0 (Ks := []) (d := 0) (fun _ h => absurd h List.not_mem_nil) (Hs := gc_H46) (by decide +kernel) rfl
/-- Lake.copyFrom -/
def gc_K47 : tk_K := (31, [(2, 0, 0, 0), (2, 1, 0, 0)], ([], []), [12, 38], [(1, (0, 0, 0, 13), (0, 0, 0, 0))], ([(none, ([], []), [12, 38], [(0, (0, 0, 0, 13), (0, 0, 0, 0))])], [(12, 8), (12, 9), (12, 10), (12, 11), (12, 12), (12, 13), (13, 0), (14, 0), (15, 0), (16, 0), (18, 4), (18, 5), (19, 0), (20, 0), (21, 0), (22, 0), (23, 7), (23, 8), (23, 9), (24, 0), (25, 0), (26, 0), (27, 0), (28, 0), (29, 0), (30, 0)]))
def gc_H47 : List tk_Hd := []
theorem gc_47 (hU : gc_U tw) (hxt : tk_xtok xt) : tk_KS l D gk_cl gk_tbl gk_xw xt gk_MN gk_P gc_TY ro (gc_X tw) ads tw 2 gc_K47 := tk_contract (hk := tk_hk0) tk_hk0_ok (gc_xs hU) hxt gk_rok [] 9000 0 0 (Ks := [gc_K45, gc_K46]) (d := 1) (List.forall_mem_cons.mpr ⟨tk_KS_up (by decide) (gc_45 hU hxt), (List.forall_mem_cons.mpr ⟨tk_KS_up (by decide) (gc_46 hU hxt), (fun _ h => absurd h List.not_mem_nil)⟩)⟩) (Hs := gc_H47) (by decide +kernel) rfl
/-- Tales.clear -/
def gc_K48 : tk_K := (116, [(2, 0, 0, 0)], ([], []), [31], [], ([(none, ([], []), [31], [(0, (0, 0, 0, 7), (0, 0, 0, 0))])], [(31, 6), (31, 7)]))
def gc_H48 : List tk_Hd := []
theorem gc_48 (hU : gc_U tw) (hxt : tk_xtok xt) : tk_KS l D gk_cl gk_tbl gk_xw xt gk_MN gk_P gc_TY ro (gc_X tw) ads tw 1 gc_K48 := tk_contract (hk := tk_hk0) tk_hk0_ok (gc_xs hU) hxt gk_rok [] 9000 0 0 (Ks := []) (d := 0) (fun _ h => absurd h List.not_mem_nil) (Hs := gc_H48) (by decide +kernel) rfl
/-- GooseIce.lake -/
def gc_K49 : tk_K := (135, [(2, 0, 0, 0), (0, 1, 1, 0)], ([((-2147483648), 2147483647)], []), [0], [], ([(some (0, 2, 1, 0), ([((-2147483648), 2147483647), ((-1), 10), (0, 9)], []), [0], [(0, (0, 0, 0, 0), (0, 3, 1, 0))])], [(0, 0), (6, 2), (6, 3), (6, 4), (6, 5), (6, 6), (6, 7), (6, 8), (6, 9), (6, 10), (6, 11), (9, 1), (12, 8), (12, 9), (12, 10), (12, 11), (12, 12), (12, 13), (13, 0), (14, 0), (15, 0), (16, 0), (18, 4), (18, 5), (19, 0), (20, 0), (21, 0), (22, 0), (23, 7), (23, 8), (23, 9), (24, 0), (25, 0), (26, 0), (27, 0), (28, 0), (29, 0), (30, 0), (31, 6), (31, 7), (38, 8), (38, 9), (38, 10), (38, 11), (38, 12), (38, 13), (39, 0), (40, 0), (41, 0), (42, 0), (44, 4), (44, 5), (45, 0), (46, 0), (47, 0), (48, 0), (49, 7), (49, 8), (49, 9), (50, 0), (51, 0), (52, 0), (53, 0)]))
def gc_H49 : List tk_Hd := []
theorem gc_49 (hU : gc_U tw) (hxt : tk_xtok xt) : tk_KS l D gk_cl gk_tbl gk_xw xt gk_MN gk_P gc_TY ro (gc_X tw) ads tw 12 gc_K49 := tk_contract (hk := tk_hk0) tk_hk0_ok (gc_xs hU) hxt gk_rok [102, 186, 187] 9000 1 0 (Ks := [gc_K12, gc_K44, gc_K47, gc_K48]) (d := 10) (List.forall_mem_cons.mpr ⟨tk_KS_up (by decide) (gc_12 hU hxt), (List.forall_mem_cons.mpr ⟨tk_KS_up (by decide) (gc_44 hU hxt), (List.forall_mem_cons.mpr ⟨tk_KS_up (by decide) (gc_47 hU hxt), (List.forall_mem_cons.mpr ⟨tk_KS_up (by decide) (gc_48 hU hxt), (fun _ h => absurd h List.not_mem_nil)⟩)⟩)⟩)⟩) (Hs := gc_H49) (by decide +kernel) rfl
/-- Tales.clear -/
def gc_K50 : tk_K := (116, [(2, 0, 0, 0)], ([], []), [57], [], ([(none, ([], []), [57], [])], [(57, 6), (57, 7)]))
def gc_H50 : List tk_Hd := []
theorem gc_50 (hU : gc_U tw) (hxt : tk_xtok xt) : tk_KS l D gk_cl gk_tbl gk_xw xt gk_MN gk_P gc_TY ro (gc_X tw) ads tw 1 gc_K50 := tk_contract (hk := tk_hk0) tk_hk0_ok (gc_xs hU) hxt gk_rok [] 9000 0 0 (Ks := []) (d := 0) (fun _ h => absurd h List.not_mem_nil) (Hs := gc_H50) (by decide +kernel) rfl
/-- TalesText.isStep -/
def gc_K51 : tk_K := (121, [(0, 1, 1, 0)], ([((-1), 22)], []), [], [], ([(some (0, 0, 0, 0), ([((-1), 21)], []), [], []), (some (0, 0, 0, 1), ([(10, 22)], []), [], [])], []))
def gc_H51 : List tk_Hd := []
theorem gc_51 (hU : gc_U tw) (hxt : tk_xtok xt) : tk_KS l D gk_cl gk_tbl gk_xw xt gk_MN gk_P gc_TY ro (gc_X tw) ads tw 1 gc_K51 := tk_contract (hk := tk_hk0) tk_hk0_ok (gc_xs hU) hxt gk_rok [] 9000 0 0 (Ks := []) (d := 0) (fun _ h => absurd h List.not_mem_nil) (Hs := gc_H51) (by decide +kernel) rfl
/-- Lake.named -/
def gc_K52 : tk_K := (38, [(2, 0, 0, 0), (1, 1, 1, 0)], ([((-9223372036854775808), 9223372036854775807)], []), [12], [], ([(some (0, 2, 1, 0), ([((-9223372036854775808), 9223372036854775807), ((-1), 9)], []), [12], [])], []))
def gc_H52 : List tk_Hd := [(2, [(0, (2, 0, 0, 0)), (1, (1, 1, 1, 0)), (3, (0, 2, 1, 0))], ([((-9223372036854775808), 9223372036854775807), (0, 10)], []), [12], [], [(0, 0, (0, 0, 0, 0)), (1, 10, (0, 2, 1, 0)), (0, 0, (0, 0, 0, 0))])]
theorem gc_52 (hU : gc_U tw) (hxt : tk_xtok xt) : tk_KS l D gk_cl gk_tbl gk_xw xt gk_MN gk_P gc_TY ro (gc_X tw) ads tw 1 gc_K52 := tk_contract (hk := tk_hk0) tk_hk0_ok (gc_xs hU) hxt gk_rok [] 9000 0 3 (Ks := []) (d := 0) (fun _ h => absurd h List.not_mem_nil) (Hs := gc_H52) (by decide +kernel) rfl
/-- Reader.cellHere -/
def gc_K53 : tk_K := (113, [(2, 0, 0, 0), (2, 1, 0, 0)], ([], []), [6, 12], [], ([(some (0, 1, 1, 0), ([((-1), 9)], []), [6, 12], [])], [(6, 10), (6, 11)]))
def gc_H53 : List tk_Hd := []
theorem gc_53 (hU : gc_U tw) (hxt : tk_xtok xt) : tk_KS l D gk_cl gk_tbl gk_xw xt gk_MN gk_P gc_TY ro (gc_X tw) ads tw 4 gc_K53 := tk_contract (hk := tk_hk0) tk_hk0_ok (gc_xs hU) hxt gk_rok [] 9000 0 0 (Ks := [gc_K24, gc_K52, gc_K26]) (d := 3) (List.forall_mem_cons.mpr ⟨tk_KS_up (by decide) (gc_24 hU hxt), (List.forall_mem_cons.mpr ⟨tk_KS_up (by decide) (gc_52 hU hxt), (List.forall_mem_cons.mpr ⟨tk_KS_up (by decide) (gc_26 hU hxt), (fun _ h => absurd h List.not_mem_nil)⟩)⟩)⟩) (Hs := gc_H53) (by decide +kernel) rfl
/-- TalesText.readCompares -/
def gc_K54 : tk_K := (125, [(2, 0, 0, 0)], ([], []), [10], [], ([(some (0, 1, 1, 0), ([((-2147483648), 2147483647)], []), [10], [])], [(6, 4), (6, 5), (6, 6), (6, 7), (6, 8), (6, 9), (6, 10), (6, 11)]))
def gc_H54 : List tk_Hd := []
theorem gc_54 (hU : gc_U tw) (hxt : tk_xtok xt) : tk_KS l D gk_cl gk_tbl gk_xw xt gk_MN gk_P gc_TY ro (gc_X tw) ads tw 5 gc_K54 := tk_contract (hk := tk_hk0) tk_hk0_ok (gc_xs hU) hxt gk_rok [] 9000 0 0 (Ks := [gc_K23, gc_K12]) (d := 4) (List.forall_mem_cons.mpr ⟨tk_KS_up (by decide) (gc_23 hU hxt), (List.forall_mem_cons.mpr ⟨tk_KS_up (by decide) (gc_12 hU hxt), (fun _ h => absurd h List.not_mem_nil)⟩)⟩) (Hs := gc_H54) (by decide +kernel) rfl
/-- Reader.passNumber -/
def gc_K55 : tk_K := (111, [(2, 0, 0, 0), (0, 0, 0, 0), (0, 0, 0, 999)], ([((-1), 7)], []), [6], [(0, (0, 0, 0, 10), (0, 1, 1, 0))], ([(some (0, 2, 1, 0), ([((-1), 7), (0, 999)], []), [6], [(0, (0, 0, 0, 10), (0, 1, 1, 0))]), (some (0, 2, 1, 0), ([((-1), (-1)), ((-2147483648), 2147483647), (0, 4)], []), [6], [(0, (0, 0, 0, 6), (0, 3, 1, 0)), (0, (0, 0, 0, 10), (0, 1, 1, 0))]), (some (0, 2, 1, 0), ([(0, 7), ((-2147483648), 2147483647), (0, 4), (1, 7)], []), [6], [(0, (0, 0, 0, 6), (0, 3, 1, 0)), (0, (0, 0, 0, 10), (0, 4, 1, 0))])], [(6, 4), (6, 5), (6, 6), (6, 7), (6, 8), (6, 9), (6, 10), (6, 11)]))
def gc_H55 : List tk_Hd := []
theorem gc_55 (hU : gc_U tw) (hxt : tk_xtok xt) : tk_KS l D gk_cl gk_tbl gk_xw xt gk_MN gk_P gc_TY ro (gc_X tw) ads tw 5 gc_K55 := tk_contract (hk := tk_hk0) tk_hk0_ok (gc_xs hU) hxt gk_rok [] 9000 0 0 (Ks := [gc_K26, gc_K12, gc_K23]) (d := 4) (List.forall_mem_cons.mpr ⟨tk_KS_up (by decide) (gc_26 hU hxt), (List.forall_mem_cons.mpr ⟨tk_KS_up (by decide) (gc_12 hU hxt), (List.forall_mem_cons.mpr ⟨tk_KS_up (by decide) (gc_23 hU hxt), (fun _ h => absurd h List.not_mem_nil)⟩)⟩)⟩) (Hs := gc_H55) (by decide +kernel) rfl
/-- Crew.named -/
def gc_K56 : tk_K := (5, [(2, 0, 0, 0), (1, 1, 1, 0)], ([((-9223372036854775808), 9223372036854775807)], []), [23], [], ([(some (0, 2, 1, 0), ([((-9223372036854775808), 9223372036854775807), ((-1), 7)], []), [23], [])], []))
def gc_H56 : List tk_Hd := [(2, [(0, (2, 0, 0, 0)), (1, (1, 1, 1, 0)), (3, (0, 2, 1, 0))], ([((-9223372036854775808), 9223372036854775807), (0, 8)], []), [23], [], [(0, 0, (0, 0, 0, 0)), (1, 8, (0, 2, 1, 0)), (0, 0, (0, 0, 0, 0))])]
theorem gc_56 (hU : gc_U tw) (hxt : tk_xtok xt) : tk_KS l D gk_cl gk_tbl gk_xw xt gk_MN gk_P gc_TY ro (gc_X tw) ads tw 1 gc_K56 := tk_contract (hk := tk_hk0) tk_hk0_ok (gc_xs hU) hxt gk_rok [] 9000 0 3 (Ks := []) (d := 0) (fun _ h => absurd h List.not_mem_nil) (Hs := gc_H56) (by decide +kernel) rfl
/-- Reader.walkerHere -/
def gc_K57 : tk_K := (114, [(2, 0, 0, 0), (2, 1, 0, 0)], ([], []), [6, 12], [(0, (0, 0, 0, 10), (0, 0, 0, 0))], ([(some (0, 1, 1, 0), ([((-1), 7)], []), [6, 12], [])], [(6, 10), (6, 11)]))
def gc_H57 : List tk_Hd := []
theorem gc_57 (hU : gc_U tw) (hxt : tk_xtok xt) : tk_KS l D gk_cl gk_tbl gk_xw xt gk_MN gk_P gc_TY ro (gc_X tw) ads tw 4 gc_K57 := tk_contract (hk := tk_hk0) tk_hk0_ok (gc_xs hU) hxt gk_rok [] 9000 0 0 (Ks := [gc_K24, gc_K56, gc_K26]) (d := 3) (List.forall_mem_cons.mpr ⟨tk_KS_up (by decide) (gc_24 hU hxt), (List.forall_mem_cons.mpr ⟨tk_KS_up (by decide) (gc_56 hU hxt), (List.forall_mem_cons.mpr ⟨tk_KS_up (by decide) (gc_26 hU hxt), (fun _ h => absurd h List.not_mem_nil)⟩)⟩)⟩) (Hs := gc_H57) (by decide +kernel) rfl
/-- TalesText.readStep -/
def gc_K58 : tk_K := (122, [(2, 0, 0, 0), (2, 1, 0, 0), (2, 2, 0, 0)], ([], []), [10, 12, 57], [(2, (0, 0, 0, 7), (0, 0, 0, 1))], ([(none, ([], []), [10, 12, 57], [])], [(6, 4), (6, 5), (6, 6), (6, 7), (6, 8), (6, 9), (6, 10), (6, 11), (10, 2), (11, 0), (57, 6), (58, 0), (59, 0), (60, 0), (61, 0), (62, 0)]))
def gc_H58 : List tk_Hd := []
theorem gc_58 (hU : gc_U tw) (hxt : tk_xtok xt) : tk_KS l D gk_cl gk_tbl gk_xw xt gk_MN gk_P gc_TY ro (gc_X tw) ads tw 8 gc_K58 := tk_contract (hk := tk_hk0) tk_hk0_ok (gc_xs hU) hxt gk_rok [107, 108, 123, 124] 9000 2 0 (Ks := [gc_K51, gc_K12, gc_K53, gc_K54, gc_K55, gc_K57, gc_K31, gc_K23, gc_K29, gc_K38, gc_K36]) (d := 5) (List.forall_mem_cons.mpr ⟨tk_KS_up (by decide) (gc_51 hU hxt), (List.forall_mem_cons.mpr ⟨tk_KS_up (by decide) (gc_12 hU hxt), (List.forall_mem_cons.mpr ⟨tk_KS_up (by decide) (gc_53 hU hxt), (List.forall_mem_cons.mpr ⟨tk_KS_up (by decide) (gc_54 hU hxt), (List.forall_mem_cons.mpr ⟨tk_KS_up (by decide) (gc_55 hU hxt), (List.forall_mem_cons.mpr ⟨tk_KS_up (by decide) (gc_57 hU hxt), (List.forall_mem_cons.mpr ⟨tk_KS_up (by decide) (gc_31 hU hxt), (List.forall_mem_cons.mpr ⟨tk_KS_up (by decide) (gc_23 hU hxt), (List.forall_mem_cons.mpr ⟨tk_KS_up (by decide) (gc_29 hU hxt), (List.forall_mem_cons.mpr ⟨tk_KS_up (by decide) (gc_38 hU hxt), (List.forall_mem_cons.mpr ⟨tk_KS_up (by decide) (gc_36 hU hxt), (fun _ h => absurd h List.not_mem_nil)⟩)⟩)⟩)⟩)⟩)⟩)⟩)⟩)⟩)⟩)⟩) (Hs := gc_H58) (by decide +kernel) rfl
/-- TalesText.parse -/
def gc_K59 : tk_K := (119, [(2, 0, 0, 0), (2, 1, 0, 0), (2, 2, 0, 0)], ([], []), [10, 12, 57], [], ([(none, ([], []), [10, 12, 57], [(2, (0, 0, 0, 7), (0, 0, 0, 1))])], [(6, 4), (6, 5), (6, 6), (6, 7), (6, 8), (6, 9), (6, 10), (6, 11), (10, 2), (11, 0), (57, 6), (57, 7), (58, 0), (59, 0), (60, 0), (61, 0), (62, 0), (63, 0)]))
def gc_H59 : List tk_Hd := [(16, [(0, (2, 0, 0, 0)), (1, (2, 1, 0, 0)), (2, (2, 2, 0, 0)), (3, (0, 1, 1, 0))], ([(0, 900)], []), [10, 12, 57], [(2, (0, 0, 0, 7), (0, 0, 0, 1))], [(0, 0, (0, 0, 0, 0)), (1, 900, (0, 1, 1, 0)), (0, 0, (0, 0, 0, 0))])]
theorem gc_59 (hU : gc_U tw) (hxt : tk_xtok xt) : tk_KS l D gk_cl gk_tbl gk_xw xt gk_MN gk_P gc_TY ro (gc_X tw) ads tw 10 gc_K59 := tk_contract (hk := tk_hk0) tk_hk0_ok (gc_xs hU) hxt gk_rok [120] 9000 1 3 (Ks := [gc_K50, gc_K23, gc_K58, gc_K12, gc_K29]) (d := 8) (List.forall_mem_cons.mpr ⟨tk_KS_up (by decide) (gc_50 hU hxt), (List.forall_mem_cons.mpr ⟨tk_KS_up (by decide) (gc_23 hU hxt), (List.forall_mem_cons.mpr ⟨tk_KS_up (by decide) (gc_58 hU hxt), (List.forall_mem_cons.mpr ⟨tk_KS_up (by decide) (gc_12 hU hxt), (List.forall_mem_cons.mpr ⟨tk_KS_up (by decide) (gc_29 hU hxt), (fun _ h => absurd h List.not_mem_nil)⟩)⟩)⟩)⟩)⟩) (Hs := gc_H59) (by decide +kernel) rfl
/-- GooseIce.fault -/
def gc_K62 : tk_K := (137, [(2, 0, 0, 0), (0, 1, 1, 0)], ([((-2147483648), 2147483647)], []), [0], [], ([(some (0, 2, 1, 0), ([((-2147483648), 2147483647), ((-1), 900)], []), [0], [])], []))
def gc_H62 : List tk_Hd := []
theorem gc_62 (hU : gc_U tw) (hxt : tk_xtok xt) : tk_KS l D gk_cl gk_tbl gk_xw xt gk_MN gk_P gc_TY ro (gc_X tw) ads tw 1 gc_K62 := tk_contract (hk := tk_hk0) tk_hk0_ok (gc_xs hU) hxt gk_rok [] 9000 0 0 (Ks := []) (d := 0) (fun _ h => absurd h List.not_mem_nil) (Hs := gc_H62) (by decide +kernel) rfl
/-- GooseIce.told -/
def gc_K63 : tk_K := (138, [(2, 0, 0, 0), (0, 1, 1, 0)], ([((-2147483648), 2147483647)], []), [0], [], ([(some (0, 2, 1, 0), ([((-2147483648), 2147483647), ((-1), 9999), (0, 1)], []), [0], [(0, (0, 0, 0, 0), (0, 3, 1, 0))])], [(0, 0)]))
def gc_H63 : List tk_Hd := []
theorem gc_63 (hU : gc_U tw) (hxt : tk_xtok xt) : tk_KS l D gk_cl gk_tbl gk_xw xt gk_MN gk_P gc_TY ro (gc_X tw) ads tw 2 gc_K63 := tk_contract (hk := tk_hk0) tk_hk0_ok (gc_xs hU) hxt gk_rok [186, 187] 9000 1 0 (Ks := []) (d := 0) (fun _ h => absurd h List.not_mem_nil) (Hs := gc_H63) (by decide +kernel) rfl
/-- Lake.load -/
def gc_K64 : tk_K := (41, [(2, 0, 0, 0), (0, 1, 1, 0), (0, 2, 1, 0)], ([(0, 9), (0, 199), (1, 10)], []), [12], [(0, (0, 0, 0, 8), (0, 3, 1, 0))], ([(some (0, 4, 1, 0), ([(0, 9), (0, 199), (1, 10), ((-2147483648), 2147483647)], []), [12], [])], []))
def gc_H64 : List tk_Hd := [(18, [(0, (2, 0, 0, 0)), (1, (0, 1, 1, 0)), (2, (0, 2, 1, 0)), (3, (0, 4, 1, 0)), (4, (0, 5, 1, 0)), (5, (0, 6, 1, 0))], ([(0, 9), (0, 199), (1, 10), (0, 255), (0, 1023), (0, 2147483647)], []), [12], [(0, (0, 0, 0, 8), (0, 3, 1, 0))], [(0, 1, (0, 0, 0, 0)), (1, 2147483647, (0, 6, 1, 0)), (0, 0, (0, 0, 0, 0))]), (83, [(0, (2, 0, 0, 0)), (1, (0, 1, 1, 0)), (2, (0, 2, 1, 0)), (3, (0, 4, 1, 0)), (4, (0, 5, 1, 0)), (5, (0, 6, 1, 0)), (6, (0, 7, 1, 0))], ([(0, 9), (0, 199), (1, 10), (0, 255), (0, 1023), ((-2147483648), 2147483647), (0, 2147483647)], []), [12], [(0, (0, 0, 0, 8), (0, 3, 1, 0))], [(0, 0, (0, 0, 0, 0)), (1, 2147483647, (0, 7, 1, 0)), (0, 0, (0, 0, 0, 0))])]
theorem gc_64 (hU : gc_U tw) (hxt : tk_xtok xt) : tk_KS l D gk_cl gk_tbl gk_xw xt gk_MN gk_P gc_TY ro (gc_X tw) ads tw 1 gc_K64 := tk_contract (hk := tk_hk0) tk_hk0_ok (gc_xs hU) hxt gk_rok [] 9000 0 3 (Ks := []) (d := 0) (fun _ h => absurd h List.not_mem_nil) (Hs := gc_H64) (by decide +kernel) rfl
/-- GooseIce.ice -/
def gc_K65 : tk_K := (139, [(2, 0, 0, 0), (0, 1, 1, 0), (0, 2, 1, 0)], ([((-2147483648), 2147483647), ((-2147483648), 2147483647)], []), [0], [], ([(some (0, 3, 1, 0), ([((-2147483648), 2147483647), ((-2147483648), 2147483647), ((-2147483648), 2147483647), (0, 1)], []), [0], [(0, (0, 0, 0, 0), (0, 4, 1, 0))])], [(0, 0)]))
def gc_H65 : List tk_Hd := []
theorem gc_65 (hU : gc_U tw) (hxt : tk_xtok xt) : tk_KS l D gk_cl gk_tbl gk_xw xt gk_MN gk_P gc_TY ro (gc_X tw) ads tw 4 gc_K65 := tk_contract (hk := tk_hk0) tk_hk0_ok (gc_xs hU) hxt gk_rok [34, 36, 40, 186, 187] 9000 2 0 (Ks := [gc_K64]) (d := 1) (List.forall_mem_cons.mpr ⟨tk_KS_up (by decide) (gc_64 hU hxt), (fun _ h => absurd h List.not_mem_nil)⟩) (Hs := gc_H65) (by decide +kernel) rfl
/-- GooseIce.walker -/
def gc_K66 : tk_K := (140, [(2, 0, 0, 0), (0, 1, 1, 0), (0, 2, 1, 0)], ([((-2147483648), 2147483647), ((-2147483648), 2147483647)], []), [0], [], ([(some (0, 3, 1, 0), ([((-2147483648), 2147483647), ((-2147483648), 2147483647), ((-2147483648), 2147483647), (0, 1)], []), [0], [(0, (0, 0, 0, 0), (0, 4, 1, 0))])], [(0, 0)]))
def gc_H66 : List tk_Hd := []
theorem gc_66 (hU : gc_U tw) (hxt : tk_xtok xt) : tk_KS l D gk_cl gk_tbl gk_xw xt gk_MN gk_P gc_TY ro (gc_X tw) ads tw 2 gc_K66 := tk_contract (hk := tk_hk0) tk_hk0_ok (gc_xs hU) hxt gk_rok [3, 11, 186, 187] 9000 1 0 (Ks := []) (d := 0) (fun _ h => absurd h List.not_mem_nil) (Hs := gc_H66) (by decide +kernel) rfl
/-- Crew.ahead -/
def gc_K67 : tk_K := (9, [(2, 0, 0, 0), (0, 1, 1, 0), (0, 2, 1, 0)], ([(0, 7), (0, 2147483646)], []), [23], [], ([(some (0, 3, 1, 0), ([(0, 7), (0, 2147483646), ((-1), 9)], []), [23], [])], []))
def gc_H67 : List tk_Hd := []
theorem gc_67 (hU : gc_U tw) (hxt : tk_xtok xt) : tk_KS l D gk_cl gk_tbl gk_xw xt gk_MN gk_P gc_TY ro (gc_X tw) ads tw 1 gc_K67 := tk_contract (hk := tk_hk0) tk_hk0_ok (gc_xs hU) hxt gk_rok [] 9000 0 0 (Ks := []) (d := 0) (fun _ h => absurd h List.not_mem_nil) (Hs := gc_H67) (by decide +kernel) rfl
/-- GooseIce.routeAt -/
def gc_K68 : tk_K := (141, [(2, 0, 0, 0), (0, 1, 1, 0), (0, 2, 1, 0)], ([((-2147483648), 2147483647), ((-2147483648), 2147483647)], []), [0], [], ([(some (0, 3, 1, 0), ([((-2147483648), 2147483647), ((-2147483648), 2147483647), ((-1), 9), (0, 6)], []), [0], [(0, (0, 0, 0, 0), (0, 4, 1, 0))])], [(0, 0)]))
def gc_H68 : List tk_Hd := []
theorem gc_68 (hU : gc_U tw) (hxt : tk_xtok xt) : tk_KS l D gk_cl gk_tbl gk_xw xt gk_MN gk_P gc_TY ro (gc_X tw) ads tw 3 gc_K68 := tk_contract (hk := tk_hk0) tk_hk0_ok (gc_xs hU) hxt gk_rok [3, 11, 186, 187] 9000 1 0 (Ks := [gc_K67]) (d := 1) (List.forall_mem_cons.mpr ⟨tk_KS_up (by decide) (gc_67 hU hxt), (fun _ h => absurd h List.not_mem_nil)⟩) (Hs := gc_H68) (by decide +kernel) rfl
/-- GooseIce.way -/
def gc_K69 : tk_K := (142, [(2, 0, 0, 0), (0, 1, 1, 0), (0, 2, 1, 0)], ([((-2147483648), 2147483647), ((-2147483648), 2147483647)], []), [0], [], ([(some (0, 3, 1, 0), ([((-2147483648), 2147483647), ((-2147483648), 2147483647), ((-1), 1), (0, 1)], []), [0], [(0, (0, 0, 0, 0), (0, 4, 1, 0))])], [(0, 0)]))
def gc_H69 : List tk_Hd := []
theorem gc_69 (hU : gc_U tw) (hxt : tk_xtok xt) : tk_KS l D gk_cl gk_tbl gk_xw xt gk_MN gk_P gc_TY ro (gc_X tw) ads tw 3 gc_K69 := tk_contract (hk := tk_hk0) tk_hk0_ok (gc_xs hU) hxt gk_rok [34, 37, 186, 187] 9000 2 0 (Ks := []) (d := 0) (fun _ h => absurd h List.not_mem_nil) (Hs := gc_H69) (by decide +kernel) rfl
/-- GooseIce.beside -/
def gc_K70 : tk_K := (143, [(2, 0, 0, 0), (0, 1, 1, 0), (0, 2, 1, 0)], ([((-2147483648), 2147483647), ((-2147483648), 2147483647)], []), [0], [], ([(some (0, 3, 1, 0), ([((-2147483648), 2147483647), ((-2147483648), 2147483647), ((-1), 1), (0, 1)], []), [0], [(0, (0, 0, 0, 0), (0, 4, 1, 0))])], [(0, 0)]))
def gc_H70 : List tk_Hd := []
theorem gc_70 (hU : gc_U tw) (hxt : tk_xtok xt) : tk_KS l D gk_cl gk_tbl gk_xw xt gk_MN gk_P gc_TY ro (gc_X tw) ads tw 3 gc_K70 := tk_contract (hk := tk_hk0) tk_hk0_ok (gc_xs hU) hxt gk_rok [34, 37, 186, 187] 9000 2 0 (Ks := []) (d := 0) (fun _ h => absurd h List.not_mem_nil) (Hs := gc_H70) (by decide +kernel) rfl
/-- GooseIce.within -/
def gc_K71 : tk_K := (144, [(2, 0, 0, 0), (0, 1, 1, 0)], ([((-2147483648), 2147483647)], []), [0], [], ([(some (0, 2, 1, 0), ([((-2147483648), 2147483647), ((-1), 255), (0, 1)], []), [0], [(0, (0, 0, 0, 0), (0, 3, 1, 0))])], [(0, 0)]))
def gc_H71 : List tk_Hd := []
theorem gc_71 (hU : gc_U tw) (hxt : tk_xtok xt) : tk_KS l D gk_cl gk_tbl gk_xw xt gk_MN gk_P gc_TY ro (gc_X tw) ads tw 2 gc_K71 := tk_contract (hk := tk_hk0) tk_hk0_ok (gc_xs hU) hxt gk_rok [34, 186, 187] 9000 1 0 (Ks := []) (d := 0) (fun _ h => absurd h List.not_mem_nil) (Hs := gc_H71) (by decide +kernel) rfl
/-- GooseIce.takePath -/
def gc_K72 : tk_K := (194, [(2, 0, 0, 0), (0, 1, 1, 0), (0, 2, 1, 0)], ([(0, 3), (1, 20)], []), [0], [], ([(some (0, 3, 1, 0), ([(0, 3), (1, 20), (0, 5)], []), [0], [])], [(5, 0)]))
def gc_H72 : List tk_Hd := [(31, [(0, (2, 0, 0, 0)), (1, (0, 1, 1, 0)), (2, (0, 2, 1, 0)), (3, (0, 3, 1, 0))], ([(0, 3), (1, 20), (0, 20)], []), [0], [], [(0, 0, (0, 0, 0, 0)), (1, 20, (0, 3, 1, 0)), (0, 0, (0, 0, 0, 0))])]
theorem gc_72 (hU : gc_U tw) (hxt : tk_xtok xt) : tk_KS l D gk_cl gk_tbl gk_xw xt gk_MN gk_P gc_TY ro (gc_X tw) ads tw 1 gc_K72 := tk_contract (hk := tk_hk0) tk_hk0_ok (gc_xs hU) hxt gk_rok [] 9000 0 3 (Ks := []) (d := 0) (fun _ h => absurd h List.not_mem_nil) (Hs := gc_H72) (by decide +kernel) rfl
/-- Lake.leads -/
def gc_K73 : tk_K := (45, [(2, 0, 0, 0), (0, 1, 1, 0), (2, 1, 0, 0), (0, 2, 1, 0)], ([(0, 9), (1, 20)], []), [12, 5], [], ([(some (0, 0, 0, 0), ([(0, 9), (1, 20)], []), [12, 5], []), (some (0, 0, 0, 1), ([(0, 9), (1, 20)], []), [12, 5], [])], []))
def gc_H73 : List tk_Hd := [(6, [(0, (2, 0, 0, 0)), (1, (0, 1, 1, 0)), (2, (2, 1, 0, 0)), (3, (0, 2, 1, 0)), (4, (0, 3, 1, 0)), (5, (0, 4, 1, 0))], ([(0, 9), (1, 20), (0, 9), (0, 2147483647)], []), [12, 5], [], [(0, 0, (0, 0, 0, 0)), (1, 2147483647, (0, 4, 1, 0)), (0, 0, (0, 0, 0, 0))])]
theorem gc_73 (hU : gc_U tw) (hxt : tk_xtok xt) : tk_KS l D gk_cl gk_tbl gk_xw xt gk_MN gk_P gc_TY ro (gc_X tw) ads tw 2 gc_K73 := tk_contract (hk := tk_hk0) tk_hk0_ok (gc_xs hU) hxt gk_rok [34] 9000 1 3 (Ks := []) (d := 0) (fun _ h => absurd h List.not_mem_nil) (Hs := gc_H73) (by decide +kernel) rfl
/-- Crew.aim -/
def gc_K74 : tk_K := (8, [(2, 0, 0, 0), (0, 1, 1, 0), (2, 1, 0, 0), (0, 2, 1, 0)], ([(0, 7), (1, 20), (1, 8)], []), [23, 5], [(0, (0, 0, 0, 7), (0, 3, 1, 0))], ([(none, ([(0, 7), (1, 20), (1, 8)], []), [23, 5], [])], [(23, 9), (28, 0), (29, 0), (30, 0)]))
def gc_H74 : List tk_Hd := []
theorem gc_74 (hU : gc_U tw) (hxt : tk_xtok xt) : tk_KS l D gk_cl gk_tbl gk_xw xt gk_MN gk_P gc_TY ro (gc_X tw) ads tw 1 gc_K74 := tk_contract (hk := tk_hk0) tk_hk0_ok (gc_xs hU) hxt gk_rok [] 9000 0 0 (Ks := []) (d := 0) (fun _ h => absurd h List.not_mem_nil) (Hs := gc_H74) (by decide +kernel) rfl
/-- GooseIce.send -/
def gc_K75 : tk_K := (145, [(2, 0, 0, 0), (0, 1, 1, 0), (0, 2, 1, 0), (0, 3, 1, 0)], ([((-2147483648), 2147483647), ((-2147483648), 2147483647), ((-2147483648), 2147483647)], []), [0], [], ([(some (0, 4, 1, 0), ([((-2147483648), 2147483647), ((-2147483648), 2147483647), ((-2147483648), 2147483647), ((-1), 20), (0, 7)], []), [0], [(0, (0, 0, 0, 0), (0, 5, 1, 0))])], [(0, 0), (5, 0), (23, 9), (28, 0), (29, 0), (30, 0)]))
def gc_H75 : List tk_Hd := []
theorem gc_75 (hU : gc_U tw) (hxt : tk_xtok xt) : tk_KS l D gk_cl gk_tbl gk_xw xt gk_MN gk_P gc_TY ro (gc_X tw) ads tw 4 gc_K75 := tk_contract (hk := tk_hk0) tk_hk0_ok (gc_xs hU) hxt gk_rok [3, 6, 186, 187, 191] 9000 1 0 (Ks := [gc_K72, gc_K73, gc_K74]) (d := 2) (List.forall_mem_cons.mpr ⟨tk_KS_up (by decide) (gc_72 hU hxt), (List.forall_mem_cons.mpr ⟨tk_KS_up (by decide) (gc_73 hU hxt), (List.forall_mem_cons.mpr ⟨tk_KS_up (by decide) (gc_74 hU hxt), (fun _ h => absurd h List.not_mem_nil)⟩)⟩)⟩) (Hs := gc_H75) (by decide +kernel) rfl
/-- Lake.spare -/
def gc_K76 : tk_K := (42, [(2, 0, 0, 0), (0, 1, 1, 0), (0, 2, 1, 0)], ([(0, 7), (0, 9), (1, 10)], []), [12], [(0, (0, 0, 0, 8), (0, 3, 1, 0))], ([(some (0, 4, 1, 0), ([(0, 7), (0, 9), (1, 10), ((-2147483648), 2147483647)], []), [12], [])], []))
def gc_H76 : List tk_Hd := []
theorem gc_76 (hU : gc_U tw) (hxt : tk_xtok xt) : tk_KS l D gk_cl gk_tbl gk_xw xt gk_MN gk_P gc_TY ro (gc_X tw) ads tw 2 gc_K76 := tk_contract (hk := tk_hk0) tk_hk0_ok (gc_xs hU) hxt gk_rok [] 9000 0 0 (Ks := [gc_K64]) (d := 1) (List.forall_mem_cons.mpr ⟨tk_KS_up (by decide) (gc_64 hU hxt), (fun _ h => absurd h List.not_mem_nil)⟩) (Hs := gc_H76) (by decide +kernel) rfl
/-- Lake.carrying -/
def gc_K77 : tk_K := (43, [(2, 0, 0, 0), (0, 1, 1, 0)], ([(0, 7)], []), [12], [], ([(some (0, 2, 1, 0), ([(0, 7), (0, 1023)], []), [12], [])], []))
def gc_H77 : List tk_Hd := [(13, [(0, (2, 0, 0, 0)), (1, (0, 1, 1, 0)), (2, (0, 2, 1, 0)), (3, (0, 3, 1, 0)), (4, (0, 4, 1, 0))], ([(0, 7), (0, 1023), ((-2147483648), 2147483647), (0, 10)], []), [12], [], [(0, 0, (0, 0, 0, 0)), (1, 10, (0, 4, 1, 0)), (0, 0, (0, 0, 0, 0))])]
theorem gc_77 (hU : gc_U tw) (hxt : tk_xtok xt) : tk_KS l D gk_cl gk_tbl gk_xw xt gk_MN gk_P gc_TY ro (gc_X tw) ads tw 4 gc_K77 := tk_contract (hk := tk_hk0) tk_hk0_ok (gc_xs hU) hxt gk_rok [39] 9000 1 3 (Ks := [gc_K76]) (d := 2) (List.forall_mem_cons.mpr ⟨tk_KS_up (by decide) (gc_76 hU hxt), (fun _ h => absurd h List.not_mem_nil)⟩) (Hs := gc_H77) (by decide +kernel) rfl
/-- Lake.around -/
def gc_K78 : tk_K := (46, [(2, 0, 0, 0), (0, 1, 1, 0)], ([(0, 1023)], []), [12], [], ([(some (0, 2, 1, 0), ([(0, 1023), (0, 1023)], []), [12], [])], []))
def gc_H78 : List tk_Hd := [(4, [(0, (2, 0, 0, 0)), (1, (0, 1, 1, 0)), (2, (0, 2, 1, 0)), (3, (0, 3, 1, 0))], ([(0, 1023), (0, 1023), (0, 2147483647)], []), [12], [], [(0, 0, (0, 0, 0, 0)), (1, 2147483647, (0, 3, 1, 0)), (0, 0, (0, 0, 0, 0))])]
theorem gc_78 (hU : gc_U tw) (hxt : tk_xtok xt) : tk_KS l D gk_cl gk_tbl gk_xw xt gk_MN gk_P gc_TY ro (gc_X tw) ads tw 1 gc_K78 := tk_contract (hk := tk_hk0) tk_hk0_ok (gc_xs hU) hxt gk_rok [] 9000 0 3 (Ks := []) (d := 0) (fun _ h => absurd h List.not_mem_nil) (Hs := gc_H78) (by decide +kernel) rfl
/-- Paths.layersFrom -/
def gc_K79 : tk_K := (82, [(2, 0, 0, 0), (2, 1, 0, 0), (0, 1, 1, 0), (0, 2, 1, 0), (0, 3, 1, 0)], ([(0, 9), (0, 9), (0, 2147483647), (1, 10)], []), [91, 12], [(0, (0, 0, 0, 4), (0, 0, 0, 0)), (1, (0, 0, 0, 8), (0, 4, 1, 0))], ([(some (0, 5, 1, 0), ([(0, 9), (0, 9), (0, 2147483647), (1, 10), ((-1), 10)], []), [91, 12], [])], [(93, 0)]))
def gc_H79 : List tk_Hd := [(31, [(0, (2, 0, 0, 0)), (1, (2, 1, 0, 0)), (2, (0, 1, 1, 0)), (3, (0, 2, 1, 0)), (4, (0, 3, 1, 0)), (5, (0, 5, 1, 0)), (6, (0, 6, 1, 0))], ([(0, 9), (0, 9), (0, 2147483647), (1, 10), (0, 1023), (1, 2147483647)], []), [91, 12], [(0, (0, 0, 0, 4), (0, 0, 0, 0)), (1, (0, 0, 0, 8), (0, 4, 1, 0))], [(0, 0, (0, 0, 0, 0)), (1, 2147483647, (0, 6, 1, 0)), (0, 0, (0, 0, 0, 0))])]
theorem gc_79 (hU : gc_U tw) (hxt : tk_xtok xt) : tk_KS l D gk_cl gk_tbl gk_xw xt gk_MN gk_P gc_TY ro (gc_X tw) ads tw 2 gc_K79 := tk_contract (hk := tk_hk0) tk_hk0_ok (gc_xs hU) hxt gk_rok [] 9000 0 3 (Ks := [gc_K78]) (d := 1) (List.forall_mem_cons.mpr ⟨tk_KS_up (by decide) (gc_78 hU hxt), (fun _ h => absurd h List.not_mem_nil)⟩) (Hs := gc_H79) (by decide +kernel) rfl
/-- java/lang/Integer.bitCount -/
def gc_K80 : tk_K := (372, [(0, 1, 1, 0)], ([((-1), 2147483647)], []), [], [], ([(some (0, 2, 1, 0), ([((-1), 2147483647), (0, 63)], []), [], [])], []))
def gc_H80 : List tk_Hd := []
theorem gc_80 (hU : gc_U tw) (hxt : tk_xtok xt) : tk_KS l D gk_cl gk_tbl gk_xw xt gk_MN gk_P gc_TY ro (gc_X tw) ads tw 1 gc_K80 := tk_contract (hk := tk_hk0) tk_hk0_ok (gc_xs hU) hxt gk_rok [] 9000 0 0 (Ks := []) (d := 0) (fun _ h => absurd h List.not_mem_nil) (Hs := gc_H80) (by decide +kernel) rfl
/-- Paths.find -/
def gc_K81 : tk_K := (81, [(2, 0, 0, 0), (2, 1, 0, 0), (0, 1, 1, 0), (0, 2, 1, 0), (0, 3, 1, 0)], ([(0, 9), (0, 9), (0, 2147483647), (1, 10)], []), [91, 12], [(1, (0, 0, 0, 8), (0, 4, 1, 0))], ([(some (0, 0, 0, 0), ([(0, 9), (0, 9), (0, 2147483647), (1, 10)], []), [91, 12], []), (some (0, 0, 0, 1), ([(0, 9), (0, 9), (0, 2147483647), (1, 10)], []), [91, 12], [])], [(91, 4), (92, 0), (93, 0)]))
def gc_H81 : List tk_Hd := [(40, [(0, (2, 0, 0, 0)), (1, (2, 1, 0, 0)), (2, (0, 1, 1, 0)), (3, (0, 2, 1, 0)), (4, (0, 3, 1, 0)), (5, (0, 5, 1, 0)), (6, (0, 6, 1, 0)), (7, (0, 7, 1, 0))], ([(0, 9), (0, 9), (0, 2147483647), (1, 10), (1, 10), (0, 9), ((-1), 9), (0, 2147483647)], []), [91, 12], [(1, (0, 0, 0, 8), (0, 4, 1, 0)), (0, (0, 0, 0, 4), (0, 8, 1, 0))], [(0, 0, (0, 0, 0, 0)), (1, 2147483647, (0, 8, 1, 0)), (0, 0, (0, 0, 0, 0))])]
theorem gc_81 (hU : gc_U tw) (hxt : tk_xtok xt) : tk_KS l D gk_cl gk_tbl gk_xw xt gk_MN gk_P gc_TY ro (gc_X tw) ads tw 4 gc_K81 := tk_contract (hk := tk_hk0) tk_hk0_ok (gc_xs hU) hxt gk_rok [34, 200] 9000 1 3 (Ks := [gc_K79, gc_K80]) (d := 2) (List.forall_mem_cons.mpr ⟨tk_KS_up (by decide) (gc_79 hU hxt), (List.forall_mem_cons.mpr ⟨tk_KS_up (by decide) (gc_80 hU hxt), (fun _ h => absurd h List.not_mem_nil)⟩)⟩) (Hs := gc_H81) (by decide +kernel) rfl
/-- Crew.aim -/
def gc_K82 : tk_K := (8, [(2, 0, 0, 0), (0, 1, 1, 0), (2, 1, 0, 0), (0, 2, 1, 0)], ([(0, 7), (0, 10), (1, 8)], []), [23, 92], [(0, (0, 0, 0, 7), (0, 3, 1, 0))], ([(none, ([(0, 7), (0, 10), (1, 8)], []), [23, 92], [])], [(23, 9), (28, 0), (29, 0), (30, 0)]))
def gc_H82 : List tk_Hd := []
theorem gc_82 (hU : gc_U tw) (hxt : tk_xtok xt) : tk_KS l D gk_cl gk_tbl gk_xw xt gk_MN gk_P gc_TY ro (gc_X tw) ads tw 1 gc_K82 := tk_contract (hk := tk_hk0) tk_hk0_ok (gc_xs hU) hxt gk_rok [] 9000 0 0 (Ks := []) (d := 0) (fun _ h => absurd h List.not_mem_nil) (Hs := gc_H82) (by decide +kernel) rfl
/-- GooseIce.sendTo -/
def gc_K83 : tk_K := (146, [(2, 0, 0, 0), (0, 1, 1, 0), (0, 2, 1, 0)], ([((-2147483648), 2147483647), ((-2147483648), 2147483647)], []), [0], [], ([(some (0, 3, 1, 0), ([((-2147483648), 2147483647), ((-2147483648), 2147483647), ((-1), 10), (0, 7)], []), [0], [(0, (0, 0, 0, 0), (0, 4, 1, 0))])], [(0, 0), (23, 9), (28, 0), (29, 0), (30, 0), (91, 4), (92, 0), (93, 0)]))
def gc_H83 : List tk_Hd := []
theorem gc_83 (hU : gc_U tw) (hxt : tk_xtok xt) : tk_KS l D gk_cl gk_tbl gk_xw xt gk_MN gk_P gc_TY ro (gc_X tw) ads tw 6 gc_K83 := tk_contract (hk := tk_hk0) tk_hk0_ok (gc_xs hU) hxt gk_rok [3, 6, 34, 186, 187, 195] 9000 1 0 (Ks := [gc_K77, gc_K81, gc_K82]) (d := 4) (List.forall_mem_cons.mpr ⟨tk_KS_up (by decide) (gc_77 hU hxt), (List.forall_mem_cons.mpr ⟨tk_KS_up (by decide) (gc_81 hU hxt), (List.forall_mem_cons.mpr ⟨tk_KS_up (by decide) (gc_82 hU hxt), (fun _ h => absurd h List.not_mem_nil)⟩)⟩)⟩) (Hs := gc_H83) (by decide +kernel) rfl
end GC2
