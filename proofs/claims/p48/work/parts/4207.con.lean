section GC7
variable {l : Launch} {D : va_G} {xt : tk_XT} {ro : Nat → Nat → Int → Prop} {ads tw : List Nat}
/-- TalesText.parse -/
def gc_K59 : tk_K := (119, [(2, 0, 0, 0), (2, 1, 0, 0), (2, 2, 0, 0)], ([], []), [10, 12, 57], [], ([(none, ([], []), [10, 12, 57], [(2, (0, 0, 0, 7), (0, 0, 0, 1))])], [(6, 4), (6, 5), (6, 6), (6, 7), (6, 8), (6, 9), (6, 10), (6, 11), (10, 2), (11, 0), (57, 6), (57, 7), (58, 0), (59, 0), (60, 0), (61, 0), (62, 0), (63, 0)]))
def gc_H59 : List tk_Hd := [(16, [(0, (2, 0, 0, 0)), (1, (2, 1, 0, 0)), (2, (2, 2, 0, 0)), (3, (0, 1, 1, 0))], ([(0, 900)], []), [10, 12, 57], [(2, (0, 0, 0, 7), (0, 0, 0, 1))], [(0, 0, (0, 0, 0, 0)), (1, 900, (0, 1, 1, 0)), (0, 0, (0, 0, 0, 0))])]
theorem gc_59 (hU : gc_U tw) (hxt : tk_xtok xt) : tk_KS l D gk_cl gk_tbl gk_xw xt gk_MN gk_P gc_TY ro (gc_X tw) ads tw 11 gc_K59 := tk_contract (hk := tk_hk0) tk_hk0_ok (gc_xs hU) hxt gk_rok [120] 9000 1 3 (Ks := [gc_K50, gc_K23, gc_K58, gc_K12, gc_K29]) (d := 9) (List.forall_mem_cons.mpr ⟨tk_KS_up (by decide) (gc_50 hU hxt), (List.forall_mem_cons.mpr ⟨tk_KS_up (by decide) (gc_23 hU hxt), (List.forall_mem_cons.mpr ⟨tk_KS_up (by decide) (gc_58 hU hxt), (List.forall_mem_cons.mpr ⟨tk_KS_up (by decide) (gc_12 hU hxt), (List.forall_mem_cons.mpr ⟨tk_KS_up (by decide) (gc_29 hU hxt), (fun _ h => absurd h List.not_mem_nil)⟩)⟩)⟩)⟩)⟩) (Hs := gc_H59) (by decide +kernel) rfl
/-- GooseIce.fault -/
def gc_K62 : tk_K := (137, [(2, 0, 0, 0), (0, 1, 1, 0)], ([((-2147483648), 2147483647)], []), [0], [], ([(some (0, 2, 1, 0), ([((-2147483648), 2147483647), ((-1), 900)], []), [0], [])], []))
def gc_H62 : List tk_Hd := []
theorem gc_62 (hU : gc_U tw) (hxt : tk_xtok xt) : tk_KS l D gk_cl gk_tbl gk_xw xt gk_MN gk_P gc_TY ro (gc_X tw) ads tw 1 gc_K62 := tk_contract (hk := tk_hk0) tk_hk0_ok (gc_xs hU) hxt gk_rok [] 9000 0 0 (Ks := []) (d := 0) (fun _ h => absurd h List.not_mem_nil) (Hs := gc_H62) (by decide +kernel) rfl
/-- GooseIce.told -/
def gc_K63 : tk_K := (138, [(2, 0, 0, 0), (0, 1, 1, 0)], ([((-2147483648), 2147483647)], []), [0], [], ([(some (0, 2, 1, 0), ([((-2147483648), 2147483647), ((-1), 9999), (0, 1)], []), [0], [(0, (0, 0, 0, 0), (0, 3, 1, 0))])], [(0, 0)]))
def gc_H63 : List tk_Hd := []
theorem gc_63 (hU : gc_U tw) (hxt : tk_xtok xt) : tk_KS l D gk_cl gk_tbl gk_xw xt gk_MN gk_P gc_TY ro (gc_X tw) ads tw 2 gc_K63 := tk_contract (hk := tk_hk0) tk_hk0_ok (gc_xs hU) hxt gk_rok [186, 187] 9000 1 0 (Ks := []) (d := 0) (fun _ h => absurd h List.not_mem_nil) (Hs := gc_H63) (by decide +kernel) rfl
/-- Lake.load -/
def gc_K64 : tk_K := (41, [(2, 0, 0, 0), (0, 1, 1, 0), (0, 2, 1, 0)], ([(0, 9), (0, 199), (1, 10)], []), [12], [(0, (0, 0, 0, 8), (0, 3, 1, 0))], ([(some (0, 4, 1, 0), ([(0, 9), (0, 199), (1, 10), ((-2147483648), 2147483647)], []), [12], [])], []))
def gc_H64 : List tk_Hd := [(18, [(0, (2, 0, 0, 0)), (1, (0, 1, 1, 0)), (2, (0, 2, 1, 0)), (3, (0, 4, 1, 0)), (4, (0, 5, 1, 0)), (5, (0, 6, 1, 0))], ([(0, 9), (0, 199), (1, 10), (0, 255), (0, 1023), (0, 2147483647)], []), [12], [(0, (0, 0, 0, 8), (0, 3, 1, 0))], [(0, 1, (0, 0, 0, 0)), (1, 2147483647, (0, 6, 1, 0)), (0, 0, (0, 0, 0, 0))]), (83, [(0, (2, 0, 0, 0)), (1, (0, 1, 1, 0)), (2, (0, 2, 1, 0)), (3, (0, 4, 1, 0)), (4, (0, 5, 1, 0)), (5, (0, 6, 1, 0)), (6, (0, 7, 1, 0))], ([(0, 9), (0, 199), (1, 10), (0, 255), (0, 1023), ((-2147483648), 2147483647), (0, 2147483647)], []), [12], [(0, (0, 0, 0, 8), (0, 3, 1, 0))], [(0, 0, (0, 0, 0, 0)), (1, 2147483647, (0, 7, 1, 0)), (0, 0, (0, 0, 0, 0))])]
theorem gc_64 (hU : gc_U tw) (hxt : tk_xtok xt) : tk_KS l D gk_cl gk_tbl gk_xw xt gk_MN gk_P gc_TY ro (gc_X tw) ads tw 1 gc_K64 := tk_contract (hk := tk_hk0) tk_hk0_ok (gc_xs hU) hxt gk_rok [] 9000 0 3 (Ks := []) (d := 0) (fun _ h => absurd h List.not_mem_nil) (Hs := gc_H64) (by decide +kernel) rfl
/-- GooseIce.ice -/
def gc_K65 : tk_K := (139, [(2, 0, 0, 0), (0, 1, 1, 0), (0, 2, 1, 0)], ([((-2147483648), 2147483647), ((-2147483648), 2147483647)], []), [0], [], ([(some (0, 3, 1, 0), ([((-2147483648), 2147483647), ((-2147483648), 2147483647), ((-2147483648), 2147483647), (0, 1)], []), [0], [(0, (0, 0, 0, 0), (0, 4, 1, 0))])], [(0, 0)]))
def gc_H65 : List tk_Hd := []
theorem gc_65 (hU : gc_U tw) (hxt : tk_xtok xt) : tk_KS l D gk_cl gk_tbl gk_xw xt gk_MN gk_P gc_TY ro (gc_X tw) ads tw 4 gc_K65 := tk_contract (hk := tk_hk0) tk_hk0_ok (gc_xs hU) hxt gk_rok [34, 36, 40, 186, 187] 9000 2 0 (Ks := [gc_K64]) (d := 1) (List.forall_mem_cons.mpr ⟨tk_KS_up (by decide) (gc_64 hU hxt), (fun _ h => absurd h List.not_mem_nil)⟩) (Hs := gc_H65) (by decide +kernel) rfl
/-- GooseIce.walker -/
def gc_K66 : tk_K := (140, [(2, 0, 0, 0), (0, 1, 1, 0), (0, 2, 1, 0)], ([((-2147483648), 2147483647), ((-2147483648), 2147483647)], []), [0], [], ([(some (0, 3, 1, 0), ([((-2147483648), 2147483647), ((-2147483648), 2147483647), ((-2147483648), 2147483647), (0, 1)], []), [0], [(0, (0, 0, 0, 0), (0, 4, 1, 0))])], [(0, 0)]))
def gc_H66 : List tk_Hd := []
theorem gc_66 (hU : gc_U tw) (hxt : tk_xtok xt) : tk_KS l D gk_cl gk_tbl gk_xw xt gk_MN gk_P gc_TY ro (gc_X tw) ads tw 2 gc_K66 := tk_contract (hk := tk_hk0) tk_hk0_ok (gc_xs hU) hxt gk_rok [3, 11, 186, 187] 9000 1 0 (Ks := []) (d := 0) (fun _ h => absurd h List.not_mem_nil) (Hs := gc_H66) (by decide +kernel) rfl
/-- Crew.ahead -/
def gc_K67 : tk_K := (9, [(2, 0, 0, 0), (0, 1, 1, 0), (0, 2, 1, 0)], ([(0, 7), (0, 2147483646)], []), [23], [], ([(some (0, 3, 1, 0), ([(0, 7), (0, 2147483646), ((-1), 9)], []), [23], [])], []))
def gc_H67 : List tk_Hd := []
theorem gc_67 (hU : gc_U tw) (hxt : tk_xtok xt) : tk_KS l D gk_cl gk_tbl gk_xw xt gk_MN gk_P gc_TY ro (gc_X tw) ads tw 1 gc_K67 := tk_contract (hk := tk_hk0) tk_hk0_ok (gc_xs hU) hxt gk_rok [] 9000 0 0 (Ks := []) (d := 0) (fun _ h => absurd h List.not_mem_nil) (Hs := gc_H67) (by decide +kernel) rfl
/-- GooseIce.routeAt -/
def gc_K68 : tk_K := (141, [(2, 0, 0, 0), (0, 1, 1, 0), (0, 2, 1, 0)], ([((-2147483648), 2147483647), ((-2147483648), 2147483647)], []), [0], [], ([(some (0, 3, 1, 0), ([((-2147483648), 2147483647), ((-2147483648), 2147483647), ((-1), 9), (0, 6)], []), [0], [(0, (0, 0, 0, 0), (0, 4, 1, 0))])], [(0, 0)]))
def gc_H68 : List tk_Hd := []
theorem gc_68 (hU : gc_U tw) (hxt : tk_xtok xt) : tk_KS l D gk_cl gk_tbl gk_xw xt gk_MN gk_P gc_TY ro (gc_X tw) ads tw 3 gc_K68 := tk_contract (hk := tk_hk0) tk_hk0_ok (gc_xs hU) hxt gk_rok [3, 11, 186, 187] 9000 1 0 (Ks := [gc_K67]) (d := 1) (List.forall_mem_cons.mpr ⟨tk_KS_up (by decide) (gc_67 hU hxt), (fun _ h => absurd h List.not_mem_nil)⟩) (Hs := gc_H68) (by decide +kernel) rfl
/-- GooseIce.way -/
def gc_K69 : tk_K := (142, [(2, 0, 0, 0), (0, 1, 1, 0), (0, 2, 1, 0)], ([((-2147483648), 2147483647), ((-2147483648), 2147483647)], []), [0], [], ([(some (0, 3, 1, 0), ([((-2147483648), 2147483647), ((-2147483648), 2147483647), ((-1), 1), (0, 1)], []), [0], [(0, (0, 0, 0, 0), (0, 4, 1, 0))])], [(0, 0)]))
def gc_H69 : List tk_Hd := []
theorem gc_69 (hU : gc_U tw) (hxt : tk_xtok xt) : tk_KS l D gk_cl gk_tbl gk_xw xt gk_MN gk_P gc_TY ro (gc_X tw) ads tw 3 gc_K69 := tk_contract (hk := tk_hk0) tk_hk0_ok (gc_xs hU) hxt gk_rok [34, 37, 186, 187] 9000 2 0 (Ks := []) (d := 0) (fun _ h => absurd h List.not_mem_nil) (Hs := gc_H69) (by decide +kernel) rfl
/-- GooseIce.beside -/
def gc_K70 : tk_K := (143, [(2, 0, 0, 0), (0, 1, 1, 0), (0, 2, 1, 0)], ([((-2147483648), 2147483647), ((-2147483648), 2147483647)], []), [0], [], ([(some (0, 3, 1, 0), ([((-2147483648), 2147483647), ((-2147483648), 2147483647), ((-1), 1), (0, 1)], []), [0], [(0, (0, 0, 0, 0), (0, 4, 1, 0))])], [(0, 0)]))
def gc_H70 : List tk_Hd := []
theorem gc_70 (hU : gc_U tw) (hxt : tk_xtok xt) : tk_KS l D gk_cl gk_tbl gk_xw xt gk_MN gk_P gc_TY ro (gc_X tw) ads tw 3 gc_K70 := tk_contract (hk := tk_hk0) tk_hk0_ok (gc_xs hU) hxt gk_rok [34, 37, 186, 187] 9000 2 0 (Ks := []) (d := 0) (fun _ h => absurd h List.not_mem_nil) (Hs := gc_H70) (by decide +kernel) rfl
/-- GooseIce.within -/
def gc_K71 : tk_K := (144, [(2, 0, 0, 0), (0, 1, 1, 0)], ([((-2147483648), 2147483647)], []), [0], [], ([(some (0, 2, 1, 0), ([((-2147483648), 2147483647), ((-1), 255), (0, 1)], []), [0], [(0, (0, 0, 0, 0), (0, 3, 1, 0))])], [(0, 0)]))
def gc_H71 : List tk_Hd := []
theorem gc_71 (hU : gc_U tw) (hxt : tk_xtok xt) : tk_KS l D gk_cl gk_tbl gk_xw xt gk_MN gk_P gc_TY ro (gc_X tw) ads tw 2 gc_K71 := tk_contract (hk := tk_hk0) tk_hk0_ok (gc_xs hU) hxt gk_rok [34, 186, 187] 9000 1 0 (Ks := []) (d := 0) (fun _ h => absurd h List.not_mem_nil) (Hs := gc_H71) (by decide +kernel) rfl
/-- GooseIce.takePath -/
def gc_K72 : tk_K := (194, [(2, 0, 0, 0), (0, 1, 1, 0), (0, 2, 1, 0)], ([(0, 3), (1, 20)], []), [0], [], ([(some (0, 3, 1, 0), ([(0, 3), (1, 20), (0, 5)], []), [0], [])], [(5, 0)]))
def gc_H72 : List tk_Hd := [(31, [(0, (2, 0, 0, 0)), (1, (0, 1, 1, 0)), (2, (0, 2, 1, 0)), (3, (0, 3, 1, 0))], ([(0, 3), (1, 20), (0, 20)], []), [0], [], [(0, 0, (0, 0, 0, 0)), (1, 20, (0, 3, 1, 0)), (0, 0, (0, 0, 0, 0))])]
theorem gc_72 (hU : gc_U tw) (hxt : tk_xtok xt) : tk_KS l D gk_cl gk_tbl gk_xw xt gk_MN gk_P gc_TY ro (gc_X tw) ads tw 1 gc_K72 := tk_contract (hk := tk_hk0) tk_hk0_ok (gc_xs hU) hxt gk_rok [] 9000 0 3 (Ks := []) (d := 0) (fun _ h => absurd h List.not_mem_nil) (Hs := gc_H72) (by decide +kernel) rfl
/-- Lake.leads -/
def gc_K73 : tk_K := (45, [(2, 0, 0, 0), (0, 1, 1, 0), (2, 1, 0, 0), (0, 2, 1, 0)], ([(0, 9), (1, 20)], []), [12, 5], [], ([(some (0, 0, 0, 0), ([(0, 9), (1, 20)], []), [12, 5], []), (some (0, 0, 0, 1), ([(0, 9), (1, 20)], []), [12, 5], [])], []))
def gc_H73 : List tk_Hd := [(6, [(0, (2, 0, 0, 0)), (1, (0, 1, 1, 0)), (2, (2, 1, 0, 0)), (3, (0, 2, 1, 0)), (4, (0, 3, 1, 0)), (5, (0, 4, 1, 0))], ([(0, 9), (1, 20), (0, 9), (0, 2147483647)], []), [12, 5], [], [(0, 0, (0, 0, 0, 0)), (1, 2147483647, (0, 4, 1, 0)), (0, 0, (0, 0, 0, 0))])]
theorem gc_73 (hU : gc_U tw) (hxt : tk_xtok xt) : tk_KS l D gk_cl gk_tbl gk_xw xt gk_MN gk_P gc_TY ro (gc_X tw) ads tw 2 gc_K73 := tk_contract (hk := tk_hk0) tk_hk0_ok (gc_xs hU) hxt gk_rok [34] 9000 1 3 (Ks := []) (d := 0) (fun _ h => absurd h List.not_mem_nil) (Hs := gc_H73) (by decide +kernel) rfl
/-- Crew.aim -/
def gc_K74 : tk_K := (8, [(2, 0, 0, 0), (0, 1, 1, 0), (2, 1, 0, 0), (0, 2, 1, 0)], ([(0, 7), (1, 20), (1, 8)], []), [23, 5], [(0, (0, 0, 0, 7), (0, 3, 1, 0))], ([(none, ([(0, 7), (1, 20), (1, 8)], []), [23, 5], [])], [(23, 9), (28, 0), (29, 0), (30, 0)]))
def gc_H74 : List tk_Hd := []
theorem gc_74 (hU : gc_U tw) (hxt : tk_xtok xt) : tk_KS l D gk_cl gk_tbl gk_xw xt gk_MN gk_P gc_TY ro (gc_X tw) ads tw 1 gc_K74 := tk_contract (hk := tk_hk0) tk_hk0_ok (gc_xs hU) hxt gk_rok [] 9000 0 0 (Ks := []) (d := 0) (fun _ h => absurd h List.not_mem_nil) (Hs := gc_H74) (by decide +kernel) rfl
/-- GooseIce.send -/
def gc_K75 : tk_K := (145, [(2, 0, 0, 0), (0, 1, 1, 0), (0, 2, 1, 0), (0, 3, 1, 0)], ([((-2147483648), 2147483647), ((-2147483648), 2147483647), ((-2147483648), 2147483647)], []), [0], [], ([(some (0, 4, 1, 0), ([((-2147483648), 2147483647), ((-2147483648), 2147483647), ((-2147483648), 2147483647), ((-1), 20), (0, 7)], []), [0], [(0, (0, 0, 0, 0), (0, 5, 1, 0))])], [(0, 0), (5, 0), (23, 9), (28, 0), (29, 0), (30, 0)]))
def gc_H75 : List tk_Hd := []
theorem gc_75 (hU : gc_U tw) (hxt : tk_xtok xt) : tk_KS l D gk_cl gk_tbl gk_xw xt gk_MN gk_P gc_TY ro (gc_X tw) ads tw 4 gc_K75 := tk_contract (hk := tk_hk0) tk_hk0_ok (gc_xs hU) hxt gk_rok [3, 6, 186, 187, 191] 9000 1 0 (Ks := [gc_K72, gc_K73, gc_K74]) (d := 2) (List.forall_mem_cons.mpr ⟨tk_KS_up (by decide) (gc_72 hU hxt), (List.forall_mem_cons.mpr ⟨tk_KS_up (by decide) (gc_73 hU hxt), (List.forall_mem_cons.mpr ⟨tk_KS_up (by decide) (gc_74 hU hxt), (fun _ h => absurd h List.not_mem_nil)⟩)⟩)⟩) (Hs := gc_H75) (by decide +kernel) rfl
/-- Lake.spare -/
def gc_K76 : tk_K := (42, [(2, 0, 0, 0), (0, 1, 1, 0), (0, 2, 1, 0)], ([(0, 7), (0, 9), (1, 10)], []), [12], [(0, (0, 0, 0, 8), (0, 3, 1, 0))], ([(some (0, 4, 1, 0), ([(0, 7), (0, 9), (1, 10), ((-2147483648), 2147483647)], []), [12], [])], []))
def gc_H76 : List tk_Hd := []
theorem gc_76 (hU : gc_U tw) (hxt : tk_xtok xt) : tk_KS l D gk_cl gk_tbl gk_xw xt gk_MN gk_P gc_TY ro (gc_X tw) ads tw 2 gc_K76 := tk_contract (hk := tk_hk0) tk_hk0_ok (gc_xs hU) hxt gk_rok [] 9000 0 0 (Ks := [gc_K64]) (d := 1) (List.forall_mem_cons.mpr ⟨tk_KS_up (by decide) (gc_64 hU hxt), (fun _ h => absurd h List.not_mem_nil)⟩) (Hs := gc_H76) (by decide +kernel) rfl
end GC7
