section MH30_0
section GC7
variable {l : Launch} {D : va_G} {xt : tk_XT} {ro : Nat → Nat → Int → Prop} {ads tw : List Nat}
/-- TalesText.parse -/
def gc_K59 : tk_K := (119, [(2, 0, 0, 0), (2, 1, 0, 0), (2, 2, 0, 0)], ([], []), [10, 12, 57], [], ([(none, ([], []), [10, 12, 57], [(2, (0, 0, 0, 7), (0, 0, 0, 1))])], [(6, 4), (6, 5), (6, 6), (6, 7), (6, 8), (6, 9), (6, 10), (6, 11), (10, 2), (11, 0), (57, 6), (57, 7), (58, 0), (59, 0), (60, 0), (61, 0), (62, 0), (63, 0)]))
def gc_H59 : List tk_Hd := [(16, [(0, (2, 0, 0, 0)), (1, (2, 1, 0, 0)), (2, (2, 2, 0, 0)), (3, (0, 1, 1, 0))], ([(0, 900)], []), [10, 12, 57], [(2, (0, 0, 0, 7), (0, 0, 0, 1))], [(0, 0, (0, 0, 0, 0)), (1, 900, (0, 1, 1, 0)), (0, 0, (0, 0, 0, 0))])]
theorem gc_59 (hU : gc_U tw) (hxt : tk_xtok xt) : tk_KS l D gk_cl gk_tbl gk_xw xt gk_MN gk_P gc_TY ro (gc_X tw) ads tw 11 gc_K59 := tk_contract (hk := tk_hk0) tk_hk0_ok (gc_xs hU) hxt gk_rok [120] 9000 1 3 (Ks := [gc_K50, gc_K23, gc_K58, gc_K12, gc_K29]) (d := 9) (List.forall_mem_cons.mpr ⟨tk_KS_up (by decide) (gc_50 hU hxt), (List.forall_mem_cons.mpr ⟨tk_KS_up (by decide) (gc_23 hU hxt), (List.forall_mem_cons.mpr ⟨tk_KS_up (by decide) (gc_58 hU hxt), (List.forall_mem_cons.mpr ⟨tk_KS_up (by decide) (gc_12 hU hxt), (List.forall_mem_cons.mpr ⟨tk_KS_up (by decide) (gc_29 hU hxt), (fun _ h => absurd h List.not_mem_nil)⟩)⟩)⟩)⟩)⟩) (Hs := gc_H59) (by decide +kernel) rfl
/-- GooseIce.fault -/
def gc_K62 : tk_K := (137, [(2, 0, 0, 0), (0, 1, 1, 0)], ([((-2147483648), 2147483647)], []), [0], [], ([(some (0, 2, 1, 0), ([((-2147483648), 2147483647), ((-1), 900)], []), [0], [])], []))
def gc_H62 : List tk_Hd := []
theorem gc_62 (hU : gc_U tw) (hxt : tk_xtok xt) : tk_KS l D gk_cl gk_tbl gk_xw xt gk_MN gk_P gc_TY ro (gc_X tw) ads tw 1 gc_K62 := tk_contract (hk := tk_hk0) tk_hk0_ok (gc_xs hU) hxt gk_rok [] 9000 0 0 (Ks := []) (d := 0) (fun _ h => absurd h List.not_mem_nil) (Hs := gc_H62) (by decide +kernel) rfl
/-- GooseIce.told -/
def gc_K63 : tk_K := (138, [(2, 0, 0, 0), (0, 1, 1, 0)], ([((-2147483648), 2147483647)], []), [0], [], ([(some (0, 2, 1, 0), ([((-2147483648), 2147483647), ((-1), 9999), (0, 1)], []), [0], [(0, (0, 0, 0, 0), (0, 3, 1, 0))])], [(0, 0)]))
def gc_H63 : List tk_Hd := []
theorem gc_63 (hU : gc_U tw) (hxt : tk_xtok xt) : tk_KS l D gk_cl gk_tbl gk_xw xt gk_MN gk_P gc_TY ro (gc_X tw) ads tw 2 gc_K63 := tk_contract (hk := tk_hk0) tk_hk0_ok (gc_xs hU) hxt gk_rok [186, 187] 9000 1 0 (Ks := []) (d := 0) (fun _ h => absurd h List.not_mem_nil) (Hs := gc_H63) (by decide +kernel) rfl
/-- Lake.load -/
def gc_K64 : tk_K := (41, [(2, 0, 0, 0), (0, 1, 1, 0), (0, 2, 1, 0)], ([(0, 9), (0, 199), (1, 10)], []), [12], [(0, (0, 0, 0, 8), (0, 3, 1, 0))], ([(some (0, 4, 1, 0), ([(0, 9), (0, 199), (1, 10), ((-2147483648), 2147483647)], []), [12], [])], []))
def gc_H64 : List tk_Hd := [(18, [(0, (2, 0, 0, 0)), (1, (0, 1, 1, 0)), (2, (0, 2, 1, 0)), (3, (0, 4, 1, 0)), (4, (0, 5, 1, 0)), (5, (0, 6, 1, 0))], ([(0, 9), (0, 199), (1, 10), (0, 255), (0, 1023), (0, 2147483647)], []), [12], [(0, (0, 0, 0, 8), (0, 3, 1, 0))], [(0, 1, (0, 0, 0, 0)), (1, 2147483647, (0, 6, 1, 0)), (0, 0, (0, 0, 0, 0))]), (83, [(0, (2, 0, 0, 0)), (1, (0, 1, 1, 0)), (2, (0, 2, 1, 0)), (3, (0, 4, 1, 0)), (4, (0, 5, 1, 0)), (5, (0, 6, 1, 0)), (6, (0, 7, 1, 0))], ([(0, 9), (0, 199), (1, 10), (0, 255), (0, 1023), ((-2147483648), 2147483647), (0, 2147483647)], []), [12], [(0, (0, 0, 0, 8), (0, 3, 1, 0))], [(0, 0, (0, 0, 0, 0)), (1, 2147483647, (0, 7, 1, 0)), (0, 0, (0, 0, 0, 0))])]
theorem gc_64 (hU : gc_U tw) (hxt : tk_xtok xt) : tk_KS l D gk_cl gk_tbl gk_xw xt gk_MN gk_P gc_TY ro (gc_X tw) ads tw 1 gc_K64 := tk_contract (hk := tk_hk0) tk_hk0_ok (gc_xs hU) hxt gk_rok [] 9000 0 3 (Ks := []) (d := 0) (fun _ h => absurd h List.not_mem_nil) (Hs := gc_H64) (by decide +kernel) rfl
/-- GooseIce.ice -/
def gc_K65 : tk_K := (139, [(2, 0, 0, 0), (0, 1, 1, 0), (0, 2, 1, 0)], ([((-2147483648), 2147483647), ((-2147483648), 2147483647)], []), [0], [], ([(some (0, 3, 1, 0), ([((-2147483648), 2147483647), ((-2147483648), 2147483647), ((-2147483648), 2147483647), (0, 1)], []), [0], [(0, (0, 0, 0, 0), (0, 4, 1, 0))])], [(0, 0)]))
def gc_H65 : List tk_Hd := []
theorem gc_65 (hU : gc_U tw) (hxt : tk_xtok xt) : tk_KS l D gk_cl gk_tbl gk_xw xt gk_MN gk_P gc_TY ro (gc_X tw) ads tw 4 gc_K65 := tk_contract (hk := tk_hk0) tk_hk0_ok (gc_xs hU) hxt gk_rok [34, 36, 40, 186, 187] 9000 2 0 (Ks := [gc_K64]) (d := 1) (List.forall_mem_cons.mpr ⟨tk_KS_up (by decide) (gc_64 hU hxt), (fun _ h => absurd h List.not_mem_nil)⟩) (Hs := gc_H65) (by decide +kernel) rfl
/-- GooseIce.walker -/
def gc_K66 : tk_K := (140, [(2, 0, 0, 0), (0, 1, 1, 0), (0, 2, 1, 0)], ([((-2147483648), 2147483647), ((-2147483648), 2147483647)], []), [0], [], ([(some (0, 3, 1, 0), ([((-2147483648), 2147483647), ((-2147483648), 2147483647), ((-2147483648), 2147483647), (0, 1)], []), [0], [(0, (0, 0, 0, 0), (0, 4, 1, 0))])], [(0, 0)]))
def gc_H66 : List tk_Hd := []
theorem gc_66 (hU : gc_U tw) (hxt : tk_xtok xt) : tk_KS l D gk_cl gk_tbl gk_xw xt gk_MN gk_P gc_TY ro (gc_X tw) ads tw 2 gc_K66 := tk_contract (hk := tk_hk0) tk_hk0_ok (gc_xs hU) hxt gk_rok [3, 11, 186, 187] 9000 1 0 (Ks := []) (d := 0) (fun _ h => absurd h List.not_mem_nil) (Hs := gc_H66) (by decide +kernel) rfl
/-- Crew.ahead -/
def gc_K67 : tk_K := (9, [(2, 0, 0, 0), (0, 1, 1, 0), (0, 2, 1, 0)], ([(0, 7), (0, 2147483646)], []), [23], [], ([(some (0, 3, 1, 0), ([(0, 7), (0, 2147483646), ((-1), 9)], []), [23], [])], []))
def gc_H67 : List tk_Hd := []
theorem gc_67 (hU : gc_U tw) (hxt : tk_xtok xt) : tk_KS l D gk_cl gk_tbl gk_xw xt gk_MN gk_P gc_TY ro (gc_X tw) ads tw 1 gc_K67 := tk_contract (hk := tk_hk0) tk_hk0_ok (gc_xs hU) hxt gk_rok [] 9000 0 0 (Ks := []) (d := 0) (fun _ h => absurd h List.not_mem_nil) (Hs := gc_H67) (by decide +kernel) rfl
/-- GooseIce.routeAt -/
def gc_K68 : tk_K := (141, [(2, 0, 0, 0), (0, 1, 1, 0), (0, 2, 1, 0)], ([((-2147483648), 2147483647), ((-2147483648), 2147483647)], []), [0], [], ([(some (0, 3, 1, 0), ([((-2147483648), 2147483647), ((-2147483648), 2147483647), ((-1), 9), (0, 6)], []), [0], [(0, (0, 0, 0, 0), (0, 4, 1, 0))])], [(0, 0)]))
def gc_H68 : List tk_Hd := []
theorem gc_68 (hU : gc_U tw) (hxt : tk_xtok xt) : tk_KS l D gk_cl gk_tbl gk_xw xt gk_MN gk_P gc_TY ro (gc_X tw) ads tw 3 gc_K68 := tk_contract (hk := tk_hk0) tk_hk0_ok (gc_xs hU) hxt gk_rok [3, 11, 186, 187] 9000 1 0 (Ks := [gc_K67]) (d := 1) (List.forall_mem_cons.mpr ⟨tk_KS_up (by decide) (gc_67 hU hxt), (fun _ h => absurd h List.not_mem_nil)⟩) (Hs := gc_H68) (by decide +kernel) rfl
/-- GooseIce.way -/
def gc_K69 : tk_K := (142, [(2, 0, 0, 0), (0, 1, 1, 0), (0, 2, 1, 0)], ([((-2147483648), 2147483647), ((-2147483648), 2147483647)], []), [0], [], ([(some (0, 3, 1, 0), ([((-2147483648), 2147483647), ((-2147483648), 2147483647), ((-1), 1), (0, 1)], []), [0], [(0, (0, 0, 0, 0), (0, 4, 1, 0))])], [(0, 0)]))
def gc_H69 : List tk_Hd := []
theorem gc_69 (hU : gc_U tw) (hxt : tk_xtok xt) : tk_KS l D gk_cl gk_tbl gk_xw xt gk_MN gk_P gc_TY ro (gc_X tw) ads tw 3 gc_K69 := tk_contract (hk := tk_hk0) tk_hk0_ok (gc_xs hU) hxt gk_rok [34, 37, 186, 187] 9000 2 0 (Ks := []) (d := 0) (fun _ h => absurd h List.not_mem_nil) (Hs := gc_H69) (by decide +kernel) rfl
/-- GooseIce.beside -/
def gc_K70 : tk_K := (143, [(2, 0, 0, 0), (0, 1, 1, 0), (0, 2, 1, 0)], ([((-2147483648), 2147483647), ((-2147483648), 2147483647)], []), [0], [], ([(some (0, 3, 1, 0), ([((-2147483648), 2147483647), ((-2147483648), 2147483647), ((-1), 1), (0, 1)], []), [0], [(0, (0, 0, 0, 0), (0, 4, 1, 0))])], [(0, 0)]))
def gc_H70 : List tk_Hd := []
theorem gc_70 (hU : gc_U tw) (hxt : tk_xtok xt) : tk_KS l D gk_cl gk_tbl gk_xw xt gk_MN gk_P gc_TY ro (gc_X tw) ads tw 3 gc_K70 := tk_contract (hk := tk_hk0) tk_hk0_ok (gc_xs hU) hxt gk_rok [34, 37, 186, 187] 9000 2 0 (Ks := []) (d := 0) (fun _ h => absurd h List.not_mem_nil) (Hs := gc_H70) (by decide +kernel) rfl
/-- GooseIce.within -/
def gc_K71 : tk_K := (144, [(2, 0, 0, 0), (0, 1, 1, 0)], ([((-2147483648), 2147483647)], []), [0], [], ([(some (0, 2, 1, 0), ([((-2147483648), 2147483647), ((-1), 255), (0, 1)], []), [0], [(0, (0, 0, 0, 0), (0, 3, 1, 0))])], [(0, 0)]))
def gc_H71 : List tk_Hd := []
theorem gc_71 (hU : gc_U tw) (hxt : tk_xtok xt) : tk_KS l D gk_cl gk_tbl gk_xw xt gk_MN gk_P gc_TY ro (gc_X tw) ads tw 2 gc_K71 := tk_contract (hk := tk_hk0) tk_hk0_ok (gc_xs hU) hxt gk_rok [34, 186, 187] 9000 1 0 (Ks := []) (d := 0) (fun _ h => absurd h List.not_mem_nil) (Hs := gc_H71) (by decide +kernel) rfl
/-- GooseIce.takePath -/
def gc_K72 : tk_K := (194, [(2, 0, 0, 0), (0, 1, 1, 0), (0, 2, 1, 0)], ([(0, 3), (1, 20)], []), [0], [], ([(some (0, 3, 1, 0), ([(0, 3), (1, 20), (0, 5)], []), [0], [])], [(5, 0)]))
def gc_H72 : List tk_Hd := [(31, [(0, (2, 0, 0, 0)), (1, (0, 1, 1, 0)), (2, (0, 2, 1, 0)), (3, (0, 3, 1, 0))], ([(0, 3), (1, 20), (0, 20)], []), [0], [], [(0, 0, (0, 0, 0, 0)), (1, 20, (0, 3, 1, 0)), (0, 0, (0, 0, 0, 0))])]
theorem gc_72 (hU : gc_U tw) (hxt : tk_xtok xt) : tk_KS l D gk_cl gk_tbl gk_xw xt gk_MN gk_P gc_TY ro (gc_X tw) ads tw 1 gc_K72 := tk_contract (hk := tk_hk0) tk_hk0_ok (gc_xs hU) hxt gk_rok [] 9000 0 3 (Ks := []) (d := 0) (fun _ h => absurd h List.not_mem_nil) (Hs := gc_H72) (by decide +kernel) rfl
/-- Lake.leads -/
def gc_K73 : tk_K := (45, [(2, 0, 0, 0), (0, 1, 1, 0), (2, 1, 0, 0), (0, 2, 1, 0)], ([(0, 9), (1, 20)], []), [12, 5], [], ([(some (0, 0, 0, 0), ([(0, 9), (1, 20)], []), [12, 5], []), (some (0, 0, 0, 1), ([(0, 9), (1, 20)], []), [12, 5], [])], []))
def gc_H73 : List tk_Hd := [(6, [(0, (2, 0, 0, 0)), (1, (0, 1, 1, 0)), (2, (2, 1, 0, 0)), (3, (0, 2, 1, 0)), (4, (0, 3, 1, 0)), (5, (0, 4, 1, 0))], ([(0, 9), (1, 20), (0, 9), (0, 2147483647)], []), [12, 5], [], [(0, 0, (0, 0, 0, 0)), (1, 2147483647, (0, 4, 1, 0)), (0, 0, (0, 0, 0, 0))])]
theorem gc_73 (hU : gc_U tw) (hxt : tk_xtok xt) : tk_KS l D gk_cl gk_tbl gk_xw xt gk_MN gk_P gc_TY ro (gc_X tw) ads tw 2 gc_K73 := tk_contract (hk := tk_hk0) tk_hk0_ok (gc_xs hU) hxt gk_rok [34] 9000 1 3 (Ks := []) (d := 0) (fun _ h => absurd h List.not_mem_nil) (Hs := gc_H73) (by decide +kernel) rfl
/-- Crew.aim -/
def gc_K74 : tk_K := (8, [(2, 0, 0, 0), (0, 1, 1, 0), (2, 1, 0, 0), (0, 2, 1, 0)], ([(0, 7), (1, 20), (1, 8)], []), [23, 5], [(0, (0, 0, 0, 7), (0, 3, 1, 0))], ([(none, ([(0, 7), (1, 20), (1, 8)], []), [23, 5], [])], [(23, 9), (28, 0), (29, 0), (30, 0)]))
def gc_H74 : List tk_Hd := []
theorem gc_74 (hU : gc_U tw) (hxt : tk_xtok xt) : tk_KS l D gk_cl gk_tbl gk_xw xt gk_MN gk_P gc_TY ro (gc_X tw) ads tw 1 gc_K74 := tk_contract (hk := tk_hk0) tk_hk0_ok (gc_xs hU) hxt gk_rok [] 9000 0 0 (Ks := []) (d := 0) (fun _ h => absurd h List.not_mem_nil) (Hs := gc_H74) (by decide +kernel) rfl
/-- GooseIce.send -/
def gc_K75 : tk_K := (145, [(2, 0, 0, 0), (0, 1, 1, 0), (0, 2, 1, 0), (0, 3, 1, 0)], ([((-2147483648), 2147483647), ((-2147483648), 2147483647), ((-2147483648), 2147483647)], []), [0], [], ([(some (0, 4, 1, 0), ([((-2147483648), 2147483647), ((-2147483648), 2147483647), ((-2147483648), 2147483647), ((-1), 20), (0, 7)], []), [0], [(0, (0, 0, 0, 0), (0, 5, 1, 0))])], [(0, 0), (5, 0), (23, 9), (28, 0), (29, 0), (30, 0)]))
def gc_H75 : List tk_Hd := []
theorem gc_75 (hU : gc_U tw) (hxt : tk_xtok xt) : tk_KS l D gk_cl gk_tbl gk_xw xt gk_MN gk_P gc_TY ro (gc_X tw) ads tw 4 gc_K75 := tk_contract (hk := tk_hk0) tk_hk0_ok (gc_xs hU) hxt gk_rok [3, 6, 186, 187, 191] 9000 1 0 (Ks := [gc_K72, gc_K73, gc_K74]) (d := 2) (List.forall_mem_cons.mpr ⟨tk_KS_up (by decide) (gc_72 hU hxt), (List.forall_mem_cons.mpr ⟨tk_KS_up (by decide) (gc_73 hU hxt), (List.forall_mem_cons.mpr ⟨tk_KS_up (by decide) (gc_74 hU hxt), (fun _ h => absurd h List.not_mem_nil)⟩)⟩)⟩) (Hs := gc_H75) (by decide +kernel) rfl
/-- Lake.spare -/
def gc_K76 : tk_K := (42, [(2, 0, 0, 0), (0, 1, 1, 0), (0, 2, 1, 0)], ([(0, 7), (0, 9), (1, 10)], []), [12], [(0, (0, 0, 0, 8), (0, 3, 1, 0))], ([(some (0, 4, 1, 0), ([(0, 7), (0, 9), (1, 10), ((-2147483648), 2147483647)], []), [12], [])], []))
def gc_H76 : List tk_Hd := []
theorem gc_76 (hU : gc_U tw) (hxt : tk_xtok xt) : tk_KS l D gk_cl gk_tbl gk_xw xt gk_MN gk_P gc_TY ro (gc_X tw) ads tw 2 gc_K76 := tk_contract (hk := tk_hk0) tk_hk0_ok (gc_xs hU) hxt gk_rok [] 9000 0 0 (Ks := [gc_K64]) (d := 1) (List.forall_mem_cons.mpr ⟨tk_KS_up (by decide) (gc_64 hU hxt), (fun _ h => absurd h List.not_mem_nil)⟩) (Hs := gc_H76) (by decide +kernel) rfl
end GC7
end MH30_0
section MH30_1
section GC8
variable {l : Launch} {D : va_G} {xt : tk_XT} {ro : Nat → Nat → Int → Prop} {ads tw : List Nat}
/-- Lake.carrying -/
def gc_K77 : tk_K := (43, [(2, 0, 0, 0), (0, 1, 1, 0)], ([(0, 7)], []), [12], [], ([(some (0, 2, 1, 0), ([(0, 7), (0, 1023)], []), [12], [])], []))
def gc_H77 : List tk_Hd := [(13, [(0, (2, 0, 0, 0)), (1, (0, 1, 1, 0)), (2, (0, 2, 1, 0)), (3, (0, 3, 1, 0)), (4, (0, 4, 1, 0))], ([(0, 7), (0, 1023), ((-2147483648), 2147483647), (0, 10)], []), [12], [], [(0, 0, (0, 0, 0, 0)), (1, 10, (0, 4, 1, 0)), (0, 0, (0, 0, 0, 0))])]
theorem gc_77 (hU : gc_U tw) (hxt : tk_xtok xt) : tk_KS l D gk_cl gk_tbl gk_xw xt gk_MN gk_P gc_TY ro (gc_X tw) ads tw 4 gc_K77 := tk_contract (hk := tk_hk0) tk_hk0_ok (gc_xs hU) hxt gk_rok [39] 9000 1 3 (Ks := [gc_K76]) (d := 2) (List.forall_mem_cons.mpr ⟨tk_KS_up (by decide) (gc_76 hU hxt), (fun _ h => absurd h List.not_mem_nil)⟩) (Hs := gc_H77) (by decide +kernel) rfl
/-- Lake.around -/
def gc_K78 : tk_K := (46, [(2, 0, 0, 0), (0, 1, 1, 0)], ([(0, 1023)], []), [12], [], ([(some (0, 2, 1, 0), ([(0, 1023), (0, 1023)], []), [12], [])], []))
def gc_H78 : List tk_Hd := [(4, [(0, (2, 0, 0, 0)), (1, (0, 1, 1, 0)), (2, (0, 2, 1, 0)), (3, (0, 3, 1, 0))], ([(0, 1023), (0, 1023), (0, 2147483647)], []), [12], [], [(0, 0, (0, 0, 0, 0)), (1, 2147483647, (0, 3, 1, 0)), (0, 0, (0, 0, 0, 0))])]
theorem gc_78 (hU : gc_U tw) (hxt : tk_xtok xt) : tk_KS l D gk_cl gk_tbl gk_xw xt gk_MN gk_P gc_TY ro (gc_X tw) ads tw 1 gc_K78 := tk_contract (hk := tk_hk0) tk_hk0_ok (gc_xs hU) hxt gk_rok [] 9000 0 3 (Ks := []) (d := 0) (fun _ h => absurd h List.not_mem_nil) (Hs := gc_H78) (by decide +kernel) rfl
/-- Paths.layersFrom -/
def gc_K79 : tk_K := (82, [(2, 0, 0, 0), (2, 1, 0, 0), (0, 1, 1, 0), (0, 2, 1, 0), (0, 3, 1, 0)], ([(0, 9), (0, 9), (0, 2147483647), (1, 10)], []), [91, 12], [(0, (0, 0, 0, 4), (0, 0, 0, 0)), (1, (0, 0, 0, 8), (0, 4, 1, 0))], ([(some (0, 5, 1, 0), ([(0, 9), (0, 9), (0, 2147483647), (1, 10), ((-1), 10)], []), [91, 12], [])], [(93, 0)]))
def gc_H79 : List tk_Hd := [(31, [(0, (2, 0, 0, 0)), (1, (2, 1, 0, 0)), (2, (0, 1, 1, 0)), (3, (0, 2, 1, 0)), (4, (0, 3, 1, 0)), (5, (0, 5, 1, 0)), (6, (0, 6, 1, 0))], ([(0, 9), (0, 9), (0, 2147483647), (1, 10), (0, 1023), (1, 2147483647)], []), [91, 12], [(0, (0, 0, 0, 4), (0, 0, 0, 0)), (1, (0, 0, 0, 8), (0, 4, 1, 0))], [(0, 0, (0, 0, 0, 0)), (1, 2147483647, (0, 6, 1, 0)), (0, 0, (0, 0, 0, 0))])]
theorem gc_79 (hU : gc_U tw) (hxt : tk_xtok xt) : tk_KS l D gk_cl gk_tbl gk_xw xt gk_MN gk_P gc_TY ro (gc_X tw) ads tw 2 gc_K79 := tk_contract (hk := tk_hk0) tk_hk0_ok (gc_xs hU) hxt gk_rok [] 9000 0 3 (Ks := [gc_K78]) (d := 1) (List.forall_mem_cons.mpr ⟨tk_KS_up (by decide) (gc_78 hU hxt), (fun _ h => absurd h List.not_mem_nil)⟩) (Hs := gc_H79) (by decide +kernel) rfl
/-- java/lang/Integer.bitCount -/
def gc_K80 : tk_K := (372, [(0, 1, 1, 0)], ([((-1), 2147483647)], []), [], [], ([(some (0, 2, 1, 0), ([((-1), 2147483647), (0, 63)], []), [], [])], []))
def gc_H80 : List tk_Hd := []
theorem gc_80 (hU : gc_U tw) (hxt : tk_xtok xt) : tk_KS l D gk_cl gk_tbl gk_xw xt gk_MN gk_P gc_TY ro (gc_X tw) ads tw 1 gc_K80 := tk_contract (hk := tk_hk0) tk_hk0_ok (gc_xs hU) hxt gk_rok [] 9000 0 0 (Ks := []) (d := 0) (fun _ h => absurd h List.not_mem_nil) (Hs := gc_H80) (by decide +kernel) rfl
/-- Paths.find -/
def gc_K81 : tk_K := (81, [(2, 0, 0, 0), (2, 1, 0, 0), (0, 1, 1, 0), (0, 2, 1, 0), (0, 3, 1, 0)], ([(0, 9), (0, 9), (0, 2147483647), (1, 10)], []), [91, 12], [(1, (0, 0, 0, 8), (0, 4, 1, 0))], ([(some (0, 0, 0, 0), ([(0, 9), (0, 9), (0, 2147483647), (1, 10)], []), [91, 12], []), (some (0, 0, 0, 1), ([(0, 9), (0, 9), (0, 2147483647), (1, 10)], []), [91, 12], [])], [(91, 4), (92, 0), (93, 0)]))
def gc_H81 : List tk_Hd := [(40, [(0, (2, 0, 0, 0)), (1, (2, 1, 0, 0)), (2, (0, 1, 1, 0)), (3, (0, 2, 1, 0)), (4, (0, 3, 1, 0)), (5, (0, 5, 1, 0)), (6, (0, 6, 1, 0)), (7, (0, 7, 1, 0))], ([(0, 9), (0, 9), (0, 2147483647), (1, 10), (1, 10), (0, 9), ((-1), 9), (0, 2147483647)], []), [91, 12], [(1, (0, 0, 0, 8), (0, 4, 1, 0)), (0, (0, 0, 0, 4), (0, 8, 1, 0))], [(0, 0, (0, 0, 0, 0)), (1, 2147483647, (0, 8, 1, 0)), (0, 0, (0, 0, 0, 0))])]
theorem gc_81 (hU : gc_U tw) (hxt : tk_xtok xt) : tk_KS l D gk_cl gk_tbl gk_xw xt gk_MN gk_P gc_TY ro (gc_X tw) ads tw 4 gc_K81 := tk_contract (hk := tk_hk0) tk_hk0_ok (gc_xs hU) hxt gk_rok [34, 200] 9000 1 3 (Ks := [gc_K79, gc_K80]) (d := 2) (List.forall_mem_cons.mpr ⟨tk_KS_up (by decide) (gc_79 hU hxt), (List.forall_mem_cons.mpr ⟨tk_KS_up (by decide) (gc_80 hU hxt), (fun _ h => absurd h List.not_mem_nil)⟩)⟩) (Hs := gc_H81) (by decide +kernel) rfl
/-- Crew.aim -/
def gc_K82 : tk_K := (8, [(2, 0, 0, 0), (0, 1, 1, 0), (2, 1, 0, 0), (0, 2, 1, 0)], ([(0, 7), (0, 10), (1, 8)], []), [23, 92], [(0, (0, 0, 0, 7), (0, 3, 1, 0))], ([(none, ([(0, 7), (0, 10), (1, 8)], []), [23, 92], [])], [(23, 9), (28, 0), (29, 0), (30, 0)]))
def gc_H82 : List tk_Hd := []
theorem gc_82 (hU : gc_U tw) (hxt : tk_xtok xt) : tk_KS l D gk_cl gk_tbl gk_xw xt gk_MN gk_P gc_TY ro (gc_X tw) ads tw 1 gc_K82 := tk_contract (hk := tk_hk0) tk_hk0_ok (gc_xs hU) hxt gk_rok [] 9000 0 0 (Ks := []) (d := 0) (fun _ h => absurd h List.not_mem_nil) (Hs := gc_H82) (by decide +kernel) rfl
/-- GooseIce.sendTo -/
def gc_K83 : tk_K := (146, [(2, 0, 0, 0), (0, 1, 1, 0), (0, 2, 1, 0)], ([((-2147483648), 2147483647), ((-2147483648), 2147483647)], []), [0], [], ([(some (0, 3, 1, 0), ([((-2147483648), 2147483647), ((-2147483648), 2147483647), ((-1), 10), (0, 7)], []), [0], [(0, (0, 0, 0, 0), (0, 4, 1, 0))])], [(0, 0), (23, 9), (28, 0), (29, 0), (30, 0), (91, 4), (92, 0), (93, 0)]))
def gc_H83 : List tk_Hd := []
theorem gc_83 (hU : gc_U tw) (hxt : tk_xtok xt) : tk_KS l D gk_cl gk_tbl gk_xw xt gk_MN gk_P gc_TY ro (gc_X tw) ads tw 6 gc_K83 := tk_contract (hk := tk_hk0) tk_hk0_ok (gc_xs hU) hxt gk_rok [3, 6, 34, 186, 187, 195] 9000 1 0 (Ks := [gc_K77, gc_K81, gc_K82]) (d := 4) (List.forall_mem_cons.mpr ⟨tk_KS_up (by decide) (gc_77 hU hxt), (List.forall_mem_cons.mpr ⟨tk_KS_up (by decide) (gc_81 hU hxt), (List.forall_mem_cons.mpr ⟨tk_KS_up (by decide) (gc_82 hU hxt), (fun _ h => absurd h List.not_mem_nil)⟩)⟩)⟩) (Hs := gc_H83) (by decide +kernel) rfl
/-- GooseIce.halt -/
def gc_K84 : tk_K := (147, [(2, 0, 0, 0), (0, 1, 1, 0)], ([((-2147483648), 2147483647)], []), [0], [], ([(some (0, 2, 1, 0), ([((-2147483648), 2147483647), ((-2147483648), 2147483647), (0, 7)], []), [0], [(0, (0, 0, 0, 0), (0, 3, 1, 0))])], [(0, 0), (23, 9)]))
def gc_H84 : List tk_Hd := []
theorem gc_84 (hU : gc_U tw) (hxt : tk_xtok xt) : tk_KS l D gk_cl gk_tbl gk_xw xt gk_MN gk_P gc_TY ro (gc_X tw) ads tw 2 gc_K84 := tk_contract (hk := tk_hk0) tk_hk0_ok (gc_xs hU) hxt gk_rok [3, 11, 186, 187] 9000 1 0 (Ks := []) (d := 0) (fun _ h => absurd h List.not_mem_nil) (Hs := gc_H84) (by decide +kernel) rfl
/-- Ice.heal -/
def gc_K85 : tk_K := (27, [(2, 0, 0, 0), (0, 1, 1, 0), (0, 2, 1, 0)], ([(0, 19), (0, 20)], []), [18], [], ([(none, ([(0, 19), (0, 20)], []), [18], [])], [(18, 4), (19, 0), (21, 0), (22, 0)]))
def gc_H85 : List tk_Hd := [(10, [(0, (2, 0, 0, 0)), (1, (0, 1, 1, 0)), (2, (0, 2, 1, 0)), (3, (0, 3, 1, 0))], ([(0, 19), (0, 20), (0, 10)], []), [18], [], [(0, 0, (0, 0, 0, 0)), (1, 10, (0, 3, 1, 0)), (0, 0, (0, 0, 0, 0))])]
theorem gc_85 (hU : gc_U tw) (hxt : tk_xtok xt) : tk_KS l D gk_cl gk_tbl gk_xw xt gk_MN gk_P gc_TY ro (gc_X tw) ads tw 1 gc_K85 := tk_contract (hk := tk_hk0) tk_hk0_ok (gc_xs hU) hxt gk_rok [] 9000 0 3 (Ks := []) (d := 0) (fun _ h => absurd h List.not_mem_nil) (Hs := gc_H85) (by decide +kernel) rfl
/-- Lake.weighAll -/
def gc_K86 : tk_K := (52, [(2, 0, 0, 0)], ([(1, 9999)], []), [12], [(0, (0, 0, 0, 13), (0, 1, 1, 0))], ([(none, ([(1, 9999)], []), [12], [])], [(17, 0)]))
def gc_H86 : List tk_Hd := [(2, [(0, (2, 0, 0, 0)), (1, (0, 2, 1, 0))], ([(1, 9999), (0, 10)], []), [12], [(0, (0, 0, 0, 13), (0, 1, 1, 0))], [(0, 0, (0, 0, 0, 0)), (1, 10, (0, 2, 1, 0)), (0, 0, (0, 0, 0, 0))])]
theorem gc_86 (hU : gc_U tw) (hxt : tk_xtok xt) : tk_KS l D gk_cl gk_tbl gk_xw xt gk_MN gk_P gc_TY ro (gc_X tw) ads tw 2 gc_K86 := tk_contract (hk := tk_hk0) tk_hk0_ok (gc_xs hU) hxt gk_rok [] 9000 0 3 (Ks := [gc_K64]) (d := 1) (List.forall_mem_cons.mpr ⟨tk_KS_up (by decide) (gc_64 hU hxt), (fun _ h => absurd h List.not_mem_nil)⟩) (Hs := gc_H86) (by decide +kernel) rfl
/-- Lake.overloaded -/
def gc_K87 : tk_K := (53, [(2, 0, 0, 0)], ([(1, 9999)], []), [12], [(0, (0, 0, 0, 13), (0, 1, 1, 0))], ([(some (0, 2, 1, 0), ([(1, 9999), (0, 1023)], []), [12], [])], []))
def gc_H87 : List tk_Hd := [(9, [(0, (2, 0, 0, 0)), (1, (0, 2, 1, 0)), (2, (0, 3, 1, 0)), (3, (0, 4, 1, 0))], ([(1, 9999), (0, 1023), ((-2147483648), 2147483647), (0, 10)], []), [12], [(0, (0, 0, 0, 13), (0, 1, 1, 0))], [(0, 0, (0, 0, 0, 0)), (1, 10, (0, 4, 1, 0)), (0, 0, (0, 0, 0, 0))])]
theorem gc_87 (hU : gc_U tw) (hxt : tk_xtok xt) : tk_KS l D gk_cl gk_tbl gk_xw xt gk_MN gk_P gc_TY ro (gc_X tw) ads tw 2 gc_K87 := tk_contract (hk := tk_hk0) tk_hk0_ok (gc_xs hU) hxt gk_rok [39, 40] 9000 1 3 (Ks := []) (d := 0) (fun _ h => absurd h List.not_mem_nil) (Hs := gc_H87) (by decide +kernel) rfl
/-- Lake.noteLoads -/
def gc_K88 : tk_K := (55, [(2, 0, 0, 0)], ([(1, 9999)], []), [12], [(0, (0, 0, 0, 13), (0, 1, 1, 0))], ([(none, ([(1, 9999)], []), [12], [])], [(20, 0)]))
def gc_H88 : List tk_Hd := [(7, [(0, (2, 0, 0, 0)), (1, (0, 2, 1, 0)), (2, (0, 3, 1, 0))], ([(1, 9999), ((-2147483648), 2147483647), (0, 10)], []), [12], [(0, (0, 0, 0, 13), (0, 1, 1, 0))], [(0, 0, (0, 0, 0, 0)), (1, 10, (0, 3, 1, 0)), (0, 0, (0, 0, 0, 0))])]
theorem gc_88 (hU : gc_U tw) (hxt : tk_xtok xt) : tk_KS l D gk_cl gk_tbl gk_xw xt gk_MN gk_P gc_TY ro (gc_X tw) ads tw 2 gc_K88 := tk_contract (hk := tk_hk0) tk_hk0_ok (gc_xs hU) hxt gk_rok [39] 9000 1 3 (Ks := []) (d := 0) (fun _ h => absurd h List.not_mem_nil) (Hs := gc_H88) (by decide +kernel) rfl
/-- Ice.shatter -/
def gc_K89 : tk_K := (28, [(2, 0, 0, 0), (0, 1, 1, 0)], ([(0, 9)], []), [18], [], ([(none, ([(0, 9)], []), [18], [])], [(18, 4), (18, 5), (19, 0), (21, 0), (22, 0)]))
def gc_H89 : List tk_Hd := [(43, [(0, (2, 0, 0, 0)), (1, (0, 1, 1, 0)), (2, (0, 2, 1, 0))], ([(0, 9), (0, 2147483647)], []), [18], [], [(0, 0, (0, 0, 0, 0)), (1, 2147483647, (0, 2, 1, 0)), (0, 0, (0, 0, 0, 0))])]
theorem gc_89 (hU : gc_U tw) (hxt : tk_xtok xt) : tk_KS l D gk_cl gk_tbl gk_xw xt gk_MN gk_P gc_TY ro (gc_X tw) ads tw 1 gc_K89 := tk_contract (hk := tk_hk0) tk_hk0_ok (gc_xs hU) hxt gk_rok [] 9000 0 3 (Ks := []) (d := 0) (fun _ h => absurd h List.not_mem_nil) (Hs := gc_H89) (by decide +kernel) rfl
/-- Lake.crack -/
def gc_K90 : tk_K := (54, [(2, 0, 0, 0), (0, 1, 1, 0)], ([(0, 1023)], []), [12], [], ([(none, ([(0, 1023)], []), [12], [])], [(18, 4), (18, 5), (19, 0), (21, 0), (22, 0), (23, 8), (23, 9)]))
def gc_H90 : List tk_Hd := [(2, [(0, (2, 0, 0, 0)), (1, (0, 1, 1, 0)), (2, (0, 2, 1, 0))], ([(0, 1023), (0, 2147483647)], []), [12], [], [(0, 0, (0, 0, 0, 0)), (1, 2147483647, (0, 2, 1, 0)), (0, 0, (0, 0, 0, 0))])]
theorem gc_90 (hU : gc_U tw) (hxt : tk_xtok xt) : tk_KS l D gk_cl gk_tbl gk_xw xt gk_MN gk_P gc_TY ro (gc_X tw) ads tw 3 gc_K90 := tk_contract (hk := tk_hk0) tk_hk0_ok (gc_xs hU) hxt gk_rok [12] 9000 1 3 (Ks := [gc_K89]) (d := 1) (List.forall_mem_cons.mpr ⟨tk_KS_up (by decide) (gc_89 hU hxt), (fun _ h => absurd h List.not_mem_nil)⟩) (Hs := gc_H90) (by decide +kernel) rfl
/-- Crew.advance -/
def gc_K91 : tk_K := (10, [(2, 0, 0, 0), (0, 1, 1, 0), (0, 2, 1, 0)], ([(0, 7), (0, 9)], []), [23], [], ([(none, ([(0, 7), (0, 9)], []), [23], [])], [(23, 9), (26, 0), (27, 0), (28, 0), (29, 0)]))
def gc_H91 : List tk_Hd := []
theorem gc_91 (hU : gc_U tw) (hxt : tk_xtok xt) : tk_KS l D gk_cl gk_tbl gk_xw xt gk_MN gk_P gc_TY ro (gc_X tw) ads tw 1 gc_K91 := tk_contract (hk := tk_hk0) tk_hk0_ok (gc_xs hU) hxt gk_rok [] 9000 0 0 (Ks := []) (d := 0) (fun _ h => absurd h List.not_mem_nil) (Hs := gc_H91) (by decide +kernel) rfl
/-- Ice.enter -/
def gc_K92 : tk_K := (26, [(2, 0, 0, 0), (0, 1, 1, 0), (0, 2, 1, 0)], ([(0, 9), (0, 19)], []), [18], [], ([(none, ([(0, 9), (0, 19)], []), [18], [])], [(18, 4), (21, 0), (22, 0)]))
def gc_H92 : List tk_Hd := []
theorem gc_92 (hU : gc_U tw) (hxt : tk_xtok xt) : tk_KS l D gk_cl gk_tbl gk_xw xt gk_MN gk_P gc_TY ro (gc_X tw) ads tw 1 gc_K92 := tk_contract (hk := tk_hk0) tk_hk0_ok (gc_xs hU) hxt gk_rok [] 9000 0 0 (Ks := []) (d := 0) (fun _ h => absurd h List.not_mem_nil) (Hs := gc_H92) (by decide +kernel) rfl
/-- Lake.moveOne -/
def gc_K93 : tk_K := (51, [(2, 0, 0, 0), (0, 1, 1, 0), (0, 2, 1, 0)], ([(0, 7), (0, 19), (1, 9999)], []), [12], [(0, (0, 0, 0, 13), (0, 3, 1, 0))], ([(none, ([(0, 7), (0, 19), (1, 9999)], []), [12], [])], [(16, 0), (18, 4), (21, 0), (22, 0), (23, 8), (23, 9), (26, 0), (27, 0), (28, 0), (29, 0)]))
def gc_H93 : List tk_Hd := []
theorem gc_93 (hU : gc_U tw) (hxt : tk_xtok xt) : tk_KS l D gk_cl gk_tbl gk_xw xt gk_MN gk_P gc_TY ro (gc_X tw) ads tw 3 gc_K93 := tk_contract (hk := tk_hk0) tk_hk0_ok (gc_xs hU) hxt gk_rok [12, 34] 9000 1 0 (Ks := [gc_K67, gc_K91, gc_K92]) (d := 1) (List.forall_mem_cons.mpr ⟨tk_KS_up (by decide) (gc_67 hU hxt), (List.forall_mem_cons.mpr ⟨tk_KS_up (by decide) (gc_91 hU hxt), (List.forall_mem_cons.mpr ⟨tk_KS_up (by decide) (gc_92 hU hxt), (fun _ h => absurd h List.not_mem_nil)⟩)⟩)⟩) (Hs := gc_H93) (by decide +kernel) rfl
/-- Lake.walkOnce -/
def gc_K94 : tk_K := (50, [(2, 0, 0, 0)], ([(0, 9998)], []), [12], [(0, (0, 0, 0, 13), (0, 1, 1, 0))], ([(some (0, 2, 1, 0), ([(0, 9998), (0, 1023)], []), [12], [(0, (0, 0, 0, 13), (0, 1, 1, 1))])], [(12, 13), (16, 0), (17, 0), (18, 4), (18, 5), (19, 0), (20, 0), (21, 0), (22, 0), (23, 8), (23, 9), (26, 0), (27, 0), (28, 0), (29, 0)]))
def gc_H94 : List tk_Hd := [(54, [(0, (2, 0, 0, 0)), (1, (0, 2, 1, 0)), (2, (0, 3, 1, 0))], ([(0, 9998), (0, 19), (0, 8)], []), [12], [(0, (0, 0, 0, 13), (0, 1, 1, 1))], [(0, 0, (0, 0, 0, 0)), (1, 8, (0, 3, 1, 0)), (0, 0, (0, 0, 0, 0))])]
theorem gc_94 (hU : gc_U tw) (hxt : tk_xtok xt) : tk_KS l D gk_cl gk_tbl gk_xw xt gk_MN gk_P gc_TY ro (gc_X tw) ads tw 4 gc_K94 := tk_contract (hk := tk_hk0) tk_hk0_ok (gc_xs hU) hxt gk_rok [] 9000 0 3 (Ks := [gc_K85, gc_K86, gc_K87, gc_K88, gc_K90, gc_K93]) (d := 3) (List.forall_mem_cons.mpr ⟨tk_KS_up (by decide) (gc_85 hU hxt), (List.forall_mem_cons.mpr ⟨tk_KS_up (by decide) (gc_86 hU hxt), (List.forall_mem_cons.mpr ⟨tk_KS_up (by decide) (gc_87 hU hxt), (List.forall_mem_cons.mpr ⟨tk_KS_up (by decide) (gc_88 hU hxt), (List.forall_mem_cons.mpr ⟨tk_KS_up (by decide) (gc_90 hU hxt), (List.forall_mem_cons.mpr ⟨tk_KS_up (by decide) (gc_93 hU hxt), (fun _ h => absurd h List.not_mem_nil)⟩)⟩)⟩)⟩)⟩)⟩) (Hs := gc_H94) (by decide +kernel) rfl
/-- Lake.walkOn -/
def gc_K95 : tk_K := (49, [(2, 0, 0, 0), (0, 0, 0, 1)], ([(0, 9998)], []), [12], [(0, (0, 0, 0, 13), (0, 1, 1, 0))], ([(some (0, 2, 1, 0), ([(0, 9998), (0, 1023)], []), [12], [])], [(12, 13), (16, 0), (17, 0), (18, 4), (18, 5), (19, 0), (20, 0), (21, 0), (22, 0), (23, 8), (23, 9), (26, 0), (27, 0), (28, 0), (29, 0)]))
def gc_H95 : List tk_Hd := [(4, [(0, (2, 0, 0, 0)), (1, (0, 0, 0, 1)), (2, (0, 2, 1, 0)), (3, (0, 3, 1, 0))], ([(0, 9998), (0, 1023), (0, 1), (0, 9999)], [(3, 2, 9998)]), [12], [(0, (0, 0, 0, 13), (0, 4, 1, 0))], [(0, 0, (0, 0, 0, 0)), (1, 9999, (0, 4, 1, 0)), (0, 0, (0, 0, 0, 0))])]
theorem gc_95 (hU : gc_U tw) (hxt : tk_xtok xt) : tk_KS l D gk_cl gk_tbl gk_xw xt gk_MN gk_P gc_TY ro (gc_X tw) ads tw 5 gc_K95 := tk_contract (hk := (tk_hks [(9, []), (47, [3])])) (tk_hks_ok _) (gc_xs hU) hxt gk_rok [] 9000 0 3 (Ks := [gc_K94]) (d := 4) (List.forall_mem_cons.mpr ⟨tk_KS_up (by decide) (gc_94 hU hxt), (fun _ h => absurd h List.not_mem_nil)⟩) (Hs := gc_H95) (by decide +kernel) rfl
/-- Lake.walkOn -/
def gc_K96 : tk_K := (49, [(2, 0, 0, 0), (0, 0, 0, 20)], ([(0, 9979)], []), [12], [(0, (0, 0, 0, 13), (0, 1, 1, 0))], ([(some (0, 2, 1, 0), ([(0, 9979), (0, 1023)], []), [12], [])], [(12, 13), (16, 0), (17, 0), (18, 4), (18, 5), (19, 0), (20, 0), (21, 0), (22, 0), (23, 8), (23, 9), (26, 0), (27, 0), (28, 0), (29, 0)]))
def gc_H96 : List tk_Hd := [(4, [(0, (2, 0, 0, 0)), (1, (0, 0, 0, 20)), (2, (0, 2, 1, 0)), (3, (0, 3, 1, 0))], ([(0, 9979), (0, 1023), (0, 20), (0, 9999)], [(3, 2, 9979)]), [12], [(0, (0, 0, 0, 13), (0, 4, 1, 0))], [(0, 0, (0, 0, 0, 0)), (1, 9999, (0, 4, 1, 0)), (0, 0, (0, 0, 0, 0))])]
theorem gc_96 (hU : gc_U tw) (hxt : tk_xtok xt) : tk_KS l D gk_cl gk_tbl gk_xw xt gk_MN gk_P gc_TY ro (gc_X tw) ads tw 5 gc_K96 := tk_contract (hk := (tk_hks [(9, []), (47, [3])])) (tk_hks_ok _) (gc_xs hU) hxt gk_rok [] 9000 0 3 (Ks := [gc_K94]) (d := 4) (List.forall_mem_cons.mpr ⟨tk_KS_up (by decide) (gc_94 hU hxt), (fun _ h => absurd h List.not_mem_nil)⟩) (Hs := gc_H96) (by decide +kernel) rfl
end GC8
end MH30_1
section MH30_2
section GC9
variable {l : Launch} {D : va_G} {xt : tk_XT} {ro : Nat → Nat → Int → Prop} {ads tw : List Nat}
/-- Lake.walkOn -/
def gc_K97 : tk_K := (49, [(2, 0, 0, 0), (0, 0, 0, 19)], ([(0, 9980)], []), [12], [(0, (0, 0, 0, 13), (0, 1, 1, 0))], ([(some (0, 2, 1, 0), ([(0, 9980), (0, 1023)], []), [12], [])], [(12, 13), (16, 0), (17, 0), (18, 4), (18, 5), (19, 0), (20, 0), (21, 0), (22, 0), (23, 8), (23, 9), (26, 0), (27, 0), (28, 0), (29, 0)]))
def gc_H97 : List tk_Hd := [(4, [(0, (2, 0, 0, 0)), (1, (0, 0, 0, 19)), (2, (0, 2, 1, 0)), (3, (0, 3, 1, 0))], ([(0, 9980), (0, 1023), (0, 20), (0, 9999)], [(3, 2, 9980)]), [12], [(0, (0, 0, 0, 13), (0, 4, 1, 0))], [(0, 0, (0, 0, 0, 0)), (1, 9999, (0, 4, 1, 0)), (0, 0, (0, 0, 0, 0))])]
theorem gc_97 (hU : gc_U tw) (hxt : tk_xtok xt) : tk_KS l D gk_cl gk_tbl gk_xw xt gk_MN gk_P gc_TY ro (gc_X tw) ads tw 5 gc_K97 := tk_contract (hk := (tk_hks [(9, []), (47, [3])])) (tk_hks_ok _) (gc_xs hU) hxt gk_rok [] 9000 0 3 (Ks := [gc_K94]) (d := 4) (List.forall_mem_cons.mpr ⟨tk_KS_up (by decide) (gc_94 hU hxt), (fun _ h => absurd h List.not_mem_nil)⟩) (Hs := gc_H97) (by decide +kernel) rfl
/-- Lake.walkOn -/
def gc_K98 : tk_K := (49, [(2, 0, 0, 0), (0, 0, 0, 18)], ([(0, 9981)], []), [12], [(0, (0, 0, 0, 13), (0, 1, 1, 0))], ([(some (0, 2, 1, 0), ([(0, 9981), (0, 1023)], []), [12], [])], [(12, 13), (16, 0), (17, 0), (18, 4), (18, 5), (19, 0), (20, 0), (21, 0), (22, 0), (23, 8), (23, 9), (26, 0), (27, 0), (28, 0), (29, 0)]))
def gc_H98 : List tk_Hd := [(4, [(0, (2, 0, 0, 0)), (1, (0, 0, 0, 18)), (2, (0, 2, 1, 0)), (3, (0, 3, 1, 0))], ([(0, 9981), (0, 1023), (0, 20), (0, 9999)], [(3, 2, 9981)]), [12], [(0, (0, 0, 0, 13), (0, 4, 1, 0))], [(0, 0, (0, 0, 0, 0)), (1, 9999, (0, 4, 1, 0)), (0, 0, (0, 0, 0, 0))])]
theorem gc_98 (hU : gc_U tw) (hxt : tk_xtok xt) : tk_KS l D gk_cl gk_tbl gk_xw xt gk_MN gk_P gc_TY ro (gc_X tw) ads tw 5 gc_K98 := tk_contract (hk := (tk_hks [(9, []), (47, [3])])) (tk_hks_ok _) (gc_xs hU) hxt gk_rok [] 9000 0 3 (Ks := [gc_K94]) (d := 4) (List.forall_mem_cons.mpr ⟨tk_KS_up (by decide) (gc_94 hU hxt), (fun _ h => absurd h List.not_mem_nil)⟩) (Hs := gc_H98) (by decide +kernel) rfl
/-- Lake.walkOn -/
def gc_K99 : tk_K := (49, [(2, 0, 0, 0), (0, 0, 0, 17)], ([(0, 9982)], []), [12], [(0, (0, 0, 0, 13), (0, 1, 1, 0))], ([(some (0, 2, 1, 0), ([(0, 9982), (0, 1023)], []), [12], [])], [(12, 13), (16, 0), (17, 0), (18, 4), (18, 5), (19, 0), (20, 0), (21, 0), (22, 0), (23, 8), (23, 9), (26, 0), (27, 0), (28, 0), (29, 0)]))
def gc_H99 : List tk_Hd := [(4, [(0, (2, 0, 0, 0)), (1, (0, 0, 0, 17)), (2, (0, 2, 1, 0)), (3, (0, 3, 1, 0))], ([(0, 9982), (0, 1023), (0, 20), (0, 9999)], [(3, 2, 9982)]), [12], [(0, (0, 0, 0, 13), (0, 4, 1, 0))], [(0, 0, (0, 0, 0, 0)), (1, 9999, (0, 4, 1, 0)), (0, 0, (0, 0, 0, 0))])]
theorem gc_99 (hU : gc_U tw) (hxt : tk_xtok xt) : tk_KS l D gk_cl gk_tbl gk_xw xt gk_MN gk_P gc_TY ro (gc_X tw) ads tw 5 gc_K99 := tk_contract (hk := (tk_hks [(9, []), (47, [3])])) (tk_hks_ok _) (gc_xs hU) hxt gk_rok [] 9000 0 3 (Ks := [gc_K94]) (d := 4) (List.forall_mem_cons.mpr ⟨tk_KS_up (by decide) (gc_94 hU hxt), (fun _ h => absurd h List.not_mem_nil)⟩) (Hs := gc_H99) (by decide +kernel) rfl
/-- Lake.walkOn -/
def gc_K100 : tk_K := (49, [(2, 0, 0, 0), (0, 0, 0, 16)], ([(0, 9983)], []), [12], [(0, (0, 0, 0, 13), (0, 1, 1, 0))], ([(some (0, 2, 1, 0), ([(0, 9983), (0, 1023)], []), [12], [])], [(12, 13), (16, 0), (17, 0), (18, 4), (18, 5), (19, 0), (20, 0), (21, 0), (22, 0), (23, 8), (23, 9), (26, 0), (27, 0), (28, 0), (29, 0)]))
def gc_H100 : List tk_Hd := [(4, [(0, (2, 0, 0, 0)), (1, (0, 0, 0, 16)), (2, (0, 2, 1, 0)), (3, (0, 3, 1, 0))], ([(0, 9983), (0, 1023), (0, 20), (0, 9999)], [(3, 2, 9983)]), [12], [(0, (0, 0, 0, 13), (0, 4, 1, 0))], [(0, 0, (0, 0, 0, 0)), (1, 9999, (0, 4, 1, 0)), (0, 0, (0, 0, 0, 0))])]
theorem gc_100 (hU : gc_U tw) (hxt : tk_xtok xt) : tk_KS l D gk_cl gk_tbl gk_xw xt gk_MN gk_P gc_TY ro (gc_X tw) ads tw 5 gc_K100 := tk_contract (hk := (tk_hks [(9, []), (47, [3])])) (tk_hks_ok _) (gc_xs hU) hxt gk_rok [] 9000 0 3 (Ks := [gc_K94]) (d := 4) (List.forall_mem_cons.mpr ⟨tk_KS_up (by decide) (gc_94 hU hxt), (fun _ h => absurd h List.not_mem_nil)⟩) (Hs := gc_H100) (by decide +kernel) rfl
/-- Lake.walkOn -/
def gc_K101 : tk_K := (49, [(2, 0, 0, 0), (0, 0, 0, 15)], ([(0, 9984)], []), [12], [(0, (0, 0, 0, 13), (0, 1, 1, 0))], ([(some (0, 2, 1, 0), ([(0, 9984), (0, 1023)], []), [12], [])], [(12, 13), (16, 0), (17, 0), (18, 4), (18, 5), (19, 0), (20, 0), (21, 0), (22, 0), (23, 8), (23, 9), (26, 0), (27, 0), (28, 0), (29, 0)]))
def gc_H101 : List tk_Hd := [(4, [(0, (2, 0, 0, 0)), (1, (0, 0, 0, 15)), (2, (0, 2, 1, 0)), (3, (0, 3, 1, 0))], ([(0, 9984), (0, 1023), (0, 20), (0, 9999)], [(3, 2, 9984)]), [12], [(0, (0, 0, 0, 13), (0, 4, 1, 0))], [(0, 0, (0, 0, 0, 0)), (1, 9999, (0, 4, 1, 0)), (0, 0, (0, 0, 0, 0))])]
theorem gc_101 (hU : gc_U tw) (hxt : tk_xtok xt) : tk_KS l D gk_cl gk_tbl gk_xw xt gk_MN gk_P gc_TY ro (gc_X tw) ads tw 5 gc_K101 := tk_contract (hk := (tk_hks [(9, []), (47, [3])])) (tk_hks_ok _) (gc_xs hU) hxt gk_rok [] 9000 0 3 (Ks := [gc_K94]) (d := 4) (List.forall_mem_cons.mpr ⟨tk_KS_up (by decide) (gc_94 hU hxt), (fun _ h => absurd h List.not_mem_nil)⟩) (Hs := gc_H101) (by decide +kernel) rfl
/-- Lake.walkOn -/
def gc_K102 : tk_K := (49, [(2, 0, 0, 0), (0, 0, 0, 14)], ([(0, 9985)], []), [12], [(0, (0, 0, 0, 13), (0, 1, 1, 0))], ([(some (0, 2, 1, 0), ([(0, 9985), (0, 1023)], []), [12], [])], [(12, 13), (16, 0), (17, 0), (18, 4), (18, 5), (19, 0), (20, 0), (21, 0), (22, 0), (23, 8), (23, 9), (26, 0), (27, 0), (28, 0), (29, 0)]))
def gc_H102 : List tk_Hd := [(4, [(0, (2, 0, 0, 0)), (1, (0, 0, 0, 14)), (2, (0, 2, 1, 0)), (3, (0, 3, 1, 0))], ([(0, 9985), (0, 1023), (0, 20), (0, 9999)], [(3, 2, 9985)]), [12], [(0, (0, 0, 0, 13), (0, 4, 1, 0))], [(0, 0, (0, 0, 0, 0)), (1, 9999, (0, 4, 1, 0)), (0, 0, (0, 0, 0, 0))])]
theorem gc_102 (hU : gc_U tw) (hxt : tk_xtok xt) : tk_KS l D gk_cl gk_tbl gk_xw xt gk_MN gk_P gc_TY ro (gc_X tw) ads tw 5 gc_K102 := tk_contract (hk := (tk_hks [(9, []), (47, [3])])) (tk_hks_ok _) (gc_xs hU) hxt gk_rok [] 9000 0 3 (Ks := [gc_K94]) (d := 4) (List.forall_mem_cons.mpr ⟨tk_KS_up (by decide) (gc_94 hU hxt), (fun _ h => absurd h List.not_mem_nil)⟩) (Hs := gc_H102) (by decide +kernel) rfl
/-- Lake.walkOn -/
def gc_K103 : tk_K := (49, [(2, 0, 0, 0), (0, 0, 0, 13)], ([(0, 9986)], []), [12], [(0, (0, 0, 0, 13), (0, 1, 1, 0))], ([(some (0, 2, 1, 0), ([(0, 9986), (0, 1023)], []), [12], [])], [(12, 13), (16, 0), (17, 0), (18, 4), (18, 5), (19, 0), (20, 0), (21, 0), (22, 0), (23, 8), (23, 9), (26, 0), (27, 0), (28, 0), (29, 0)]))
def gc_H103 : List tk_Hd := [(4, [(0, (2, 0, 0, 0)), (1, (0, 0, 0, 13)), (2, (0, 2, 1, 0)), (3, (0, 3, 1, 0))], ([(0, 9986), (0, 1023), (0, 20), (0, 9999)], [(3, 2, 9986)]), [12], [(0, (0, 0, 0, 13), (0, 4, 1, 0))], [(0, 0, (0, 0, 0, 0)), (1, 9999, (0, 4, 1, 0)), (0, 0, (0, 0, 0, 0))])]
theorem gc_103 (hU : gc_U tw) (hxt : tk_xtok xt) : tk_KS l D gk_cl gk_tbl gk_xw xt gk_MN gk_P gc_TY ro (gc_X tw) ads tw 5 gc_K103 := tk_contract (hk := (tk_hks [(9, []), (47, [3])])) (tk_hks_ok _) (gc_xs hU) hxt gk_rok [] 9000 0 3 (Ks := [gc_K94]) (d := 4) (List.forall_mem_cons.mpr ⟨tk_KS_up (by decide) (gc_94 hU hxt), (fun _ h => absurd h List.not_mem_nil)⟩) (Hs := gc_H103) (by decide +kernel) rfl
/-- Lake.walkOn -/
def gc_K104 : tk_K := (49, [(2, 0, 0, 0), (0, 0, 0, 12)], ([(0, 9987)], []), [12], [(0, (0, 0, 0, 13), (0, 1, 1, 0))], ([(some (0, 2, 1, 0), ([(0, 9987), (0, 1023)], []), [12], [])], [(12, 13), (16, 0), (17, 0), (18, 4), (18, 5), (19, 0), (20, 0), (21, 0), (22, 0), (23, 8), (23, 9), (26, 0), (27, 0), (28, 0), (29, 0)]))
def gc_H104 : List tk_Hd := [(4, [(0, (2, 0, 0, 0)), (1, (0, 0, 0, 12)), (2, (0, 2, 1, 0)), (3, (0, 3, 1, 0))], ([(0, 9987), (0, 1023), (0, 12), (0, 9999)], [(3, 2, 9987)]), [12], [(0, (0, 0, 0, 13), (0, 4, 1, 0))], [(0, 0, (0, 0, 0, 0)), (1, 9999, (0, 4, 1, 0)), (0, 0, (0, 0, 0, 0))])]
theorem gc_104 (hU : gc_U tw) (hxt : tk_xtok xt) : tk_KS l D gk_cl gk_tbl gk_xw xt gk_MN gk_P gc_TY ro (gc_X tw) ads tw 5 gc_K104 := tk_contract (hk := (tk_hks [(9, []), (47, [3])])) (tk_hks_ok _) (gc_xs hU) hxt gk_rok [] 9000 0 3 (Ks := [gc_K94]) (d := 4) (List.forall_mem_cons.mpr ⟨tk_KS_up (by decide) (gc_94 hU hxt), (fun _ h => absurd h List.not_mem_nil)⟩) (Hs := gc_H104) (by decide +kernel) rfl
/-- Lake.walkOn -/
def gc_K105 : tk_K := (49, [(2, 0, 0, 0), (0, 0, 0, 11)], ([(0, 9988)], []), [12], [(0, (0, 0, 0, 13), (0, 1, 1, 0))], ([(some (0, 2, 1, 0), ([(0, 9988), (0, 1023)], []), [12], [])], [(12, 13), (16, 0), (17, 0), (18, 4), (18, 5), (19, 0), (20, 0), (21, 0), (22, 0), (23, 8), (23, 9), (26, 0), (27, 0), (28, 0), (29, 0)]))
def gc_H105 : List tk_Hd := [(4, [(0, (2, 0, 0, 0)), (1, (0, 0, 0, 11)), (2, (0, 2, 1, 0)), (3, (0, 3, 1, 0))], ([(0, 9988), (0, 1023), (0, 12), (0, 9999)], [(3, 2, 9988)]), [12], [(0, (0, 0, 0, 13), (0, 4, 1, 0))], [(0, 0, (0, 0, 0, 0)), (1, 9999, (0, 4, 1, 0)), (0, 0, (0, 0, 0, 0))])]
theorem gc_105 (hU : gc_U tw) (hxt : tk_xtok xt) : tk_KS l D gk_cl gk_tbl gk_xw xt gk_MN gk_P gc_TY ro (gc_X tw) ads tw 5 gc_K105 := tk_contract (hk := (tk_hks [(9, []), (47, [3])])) (tk_hks_ok _) (gc_xs hU) hxt gk_rok [] 9000 0 3 (Ks := [gc_K94]) (d := 4) (List.forall_mem_cons.mpr ⟨tk_KS_up (by decide) (gc_94 hU hxt), (fun _ h => absurd h List.not_mem_nil)⟩) (Hs := gc_H105) (by decide +kernel) rfl
/-- Lake.walkOn -/
def gc_K106 : tk_K := (49, [(2, 0, 0, 0), (0, 0, 0, 10)], ([(0, 9989)], []), [12], [(0, (0, 0, 0, 13), (0, 1, 1, 0))], ([(some (0, 2, 1, 0), ([(0, 9989), (0, 1023)], []), [12], [])], [(12, 13), (16, 0), (17, 0), (18, 4), (18, 5), (19, 0), (20, 0), (21, 0), (22, 0), (23, 8), (23, 9), (26, 0), (27, 0), (28, 0), (29, 0)]))
def gc_H106 : List tk_Hd := [(4, [(0, (2, 0, 0, 0)), (1, (0, 0, 0, 10)), (2, (0, 2, 1, 0)), (3, (0, 3, 1, 0))], ([(0, 9989), (0, 1023), (0, 10), (0, 9999)], [(3, 2, 9989)]), [12], [(0, (0, 0, 0, 13), (0, 4, 1, 0))], [(0, 0, (0, 0, 0, 0)), (1, 9999, (0, 4, 1, 0)), (0, 0, (0, 0, 0, 0))])]
theorem gc_106 (hU : gc_U tw) (hxt : tk_xtok xt) : tk_KS l D gk_cl gk_tbl gk_xw xt gk_MN gk_P gc_TY ro (gc_X tw) ads tw 5 gc_K106 := tk_contract (hk := (tk_hks [(9, []), (47, [3])])) (tk_hks_ok _) (gc_xs hU) hxt gk_rok [] 9000 0 3 (Ks := [gc_K94]) (d := 4) (List.forall_mem_cons.mpr ⟨tk_KS_up (by decide) (gc_94 hU hxt), (fun _ h => absurd h List.not_mem_nil)⟩) (Hs := gc_H106) (by decide +kernel) rfl
/-- Lake.walkOn -/
def gc_K107 : tk_K := (49, [(2, 0, 0, 0), (0, 0, 0, 9)], ([(0, 9990)], []), [12], [(0, (0, 0, 0, 13), (0, 1, 1, 0))], ([(some (0, 2, 1, 0), ([(0, 9990), (0, 1023)], []), [12], [])], [(12, 13), (16, 0), (17, 0), (18, 4), (18, 5), (19, 0), (20, 0), (21, 0), (22, 0), (23, 8), (23, 9), (26, 0), (27, 0), (28, 0), (29, 0)]))
def gc_H107 : List tk_Hd := [(4, [(0, (2, 0, 0, 0)), (1, (0, 0, 0, 9)), (2, (0, 2, 1, 0)), (3, (0, 3, 1, 0))], ([(0, 9990), (0, 1023), (0, 9), (0, 9999)], [(3, 2, 9990)]), [12], [(0, (0, 0, 0, 13), (0, 4, 1, 0))], [(0, 0, (0, 0, 0, 0)), (1, 9999, (0, 4, 1, 0)), (0, 0, (0, 0, 0, 0))])]
theorem gc_107 (hU : gc_U tw) (hxt : tk_xtok xt) : tk_KS l D gk_cl gk_tbl gk_xw xt gk_MN gk_P gc_TY ro (gc_X tw) ads tw 5 gc_K107 := tk_contract (hk := (tk_hks [(9, []), (47, [3])])) (tk_hks_ok _) (gc_xs hU) hxt gk_rok [] 9000 0 3 (Ks := [gc_K94]) (d := 4) (List.forall_mem_cons.mpr ⟨tk_KS_up (by decide) (gc_94 hU hxt), (fun _ h => absurd h List.not_mem_nil)⟩) (Hs := gc_H107) (by decide +kernel) rfl
end GC9
end MH30_2
