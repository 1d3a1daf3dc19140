section GC4
variable {l : Launch} {D : va_G} {xt : tk_XT} {ro : Nat → Nat → Int → Prop} {ads tw : List Nat}
/-- Lake.freeze -/
def gc_K116 : tk_K := (56, [(2, 0, 0, 0), (0, 1, 1, 0)], ([((-2147483648), 2147483647)], []), [12], [], ([(some (0, 2, 1, 0), ([((-2147483648), 2147483647), (0, 63)], []), [12], [])], [(18, 5), (19, 0)]))
def gc_H116 : List tk_Hd := [(21, [(0, (2, 0, 0, 0)), (1, (0, 1, 1, 0)), (2, (0, 2, 1, 0)), (3, (0, 3, 1, 0))], ([((-2147483648), 2147483647), (0, 63), (0, 10)], []), [12], [], [(0, 0, (0, 0, 0, 0)), (1, 10, (0, 3, 1, 0)), (0, 0, (0, 0, 0, 0))])]
theorem gc_116 (hU : gc_U tw) (hxt : tk_xtok xt) : tk_KS l D gk_cl gk_tbl gk_xw xt gk_MN gk_P gc_TY ro (gc_X tw) ads tw 4 gc_K116 := tk_contract (hk := tk_hk0) tk_hk0_ok (gc_xs hU) hxt gk_rok [34, 36] 9000 2 3 (Ks := [gc_K80]) (d := 1) (List.forall_mem_cons.mpr ⟨tk_KS_up (by decide) (gc_80 hU hxt), (fun _ h => absurd h List.not_mem_nil)⟩) (Hs := gc_H116) (by decide +kernel) rfl
/-- GooseIce.frost -/
def gc_K117 : tk_K := (149, [(2, 0, 0, 0), (0, 1, 1, 0)], ([((-2147483648), 2147483647)], []), [0], [], ([(some (0, 2, 1, 0), ([((-2147483648), 2147483647), ((-1), 63), (0, 1)], []), [0], [(0, (0, 0, 0, 0), (0, 3, 1, 0))])], [(0, 0), (18, 5), (19, 0)]))
def gc_H117 : List tk_Hd := []
theorem gc_117 (hU : gc_U tw) (hxt : tk_xtok xt) : tk_KS l D gk_cl gk_tbl gk_xw xt gk_MN gk_P gc_TY ro (gc_X tw) ads tw 6 gc_K117 := tk_contract (hk := tk_hk0) tk_hk0_ok (gc_xs hU) hxt gk_rok [186, 187] 9000 1 0 (Ks := [gc_K116]) (d := 4) (List.forall_mem_cons.mpr ⟨tk_KS_up (by decide) (gc_116 hU hxt), (fun _ h => absurd h List.not_mem_nil)⟩) (Hs := gc_H117) (by decide +kernel) rfl
/-- Lake.soften -/
def gc_K118 : tk_K := (57, [(2, 0, 0, 0), (0, 1, 1, 0)], ([((-2147483648), 2147483647)], []), [12], [], ([(none, ([((-2147483648), 2147483647)], []), [12], [])], [(19, 0)]))
def gc_H118 : List tk_Hd := [(2, [(0, (2, 0, 0, 0)), (1, (0, 1, 1, 0)), (2, (0, 2, 1, 0))], ([((-2147483648), 2147483647), (0, 10)], []), [12], [], [(0, 0, (0, 0, 0, 0)), (1, 10, (0, 2, 1, 0)), (0, 0, (0, 0, 0, 0))])]
theorem gc_118 (hU : gc_U tw) (hxt : tk_xtok xt) : tk_KS l D gk_cl gk_tbl gk_xw xt gk_MN gk_P gc_TY ro (gc_X tw) ads tw 1 gc_K118 := tk_contract (hk := tk_hk0) tk_hk0_ok (gc_xs hU) hxt gk_rok [] 9000 0 3 (Ks := []) (d := 0) (fun _ h => absurd h List.not_mem_nil) (Hs := gc_H118) (by decide +kernel) rfl
/-- Lake.countSpent -/
def gc_K119 : tk_K := (58, [(2, 0, 0, 0)], ([], []), [12], [], ([(some (0, 1, 1, 0), ([((-2147483648), 2147483647)], []), [12], [])], []))
def gc_H119 : List tk_Hd := [(4, [(0, (2, 0, 0, 0)), (1, (0, 1, 1, 0)), (2, (0, 2, 1, 0))], ([((-2147483648), 2147483647), (0, 10)], []), [12], [], [(0, 0, (0, 0, 0, 0)), (1, 10, (0, 2, 1, 0)), (0, 0, (0, 0, 0, 0))])]
theorem gc_119 (hU : gc_U tw) (hxt : tk_xtok xt) : tk_KS l D gk_cl gk_tbl gk_xw xt gk_MN gk_P gc_TY ro (gc_X tw) ads tw 3 gc_K119 := tk_contract (hk := tk_hk0) tk_hk0_ok (gc_xs hU) hxt gk_rok [34, 36, 40] 9000 2 3 (Ks := []) (d := 0) (fun _ h => absurd h List.not_mem_nil) (Hs := gc_H119) (by decide +kernel) rfl
/-- GooseIce.thaw -/
def gc_K120 : tk_K := (150, [(2, 0, 0, 0), (0, 1, 1, 0)], ([((-2147483648), 2147483647)], []), [0], [], ([(some (0, 2, 1, 0), ([((-2147483648), 2147483647), ((-2147483648), 2147483647), (0, 1)], []), [0], [(0, (0, 0, 0, 0), (0, 3, 1, 0))])], [(0, 0), (19, 0)]))
def gc_H120 : List tk_Hd := []
theorem gc_120 (hU : gc_U tw) (hxt : tk_xtok xt) : tk_KS l D gk_cl gk_tbl gk_xw xt gk_MN gk_P gc_TY ro (gc_X tw) ads tw 5 gc_K120 := tk_contract (hk := tk_hk0) tk_hk0_ok (gc_xs hU) hxt gk_rok [186, 187] 9000 1 0 (Ks := [gc_K118, gc_K119]) (d := 3) (List.forall_mem_cons.mpr ⟨tk_KS_up (by decide) (gc_118 hU hxt), (List.forall_mem_cons.mpr ⟨tk_KS_up (by decide) (gc_119 hU hxt), (fun _ h => absurd h List.not_mem_nil)⟩)⟩) (Hs := gc_H120) (by decide +kernel) rfl
/-- Lake.bringAshore -/
def gc_K121 : tk_K := (59, [(2, 0, 0, 0), (0, 1, 1, 0)], ([(0, 7), (1, 1023)], []), [12], [(0, (0, 0, 0, 9), (0, 2, 1, 0))], ([(none, ([(0, 7), (1, 1023)], []), [12], [])], [(16, 0), (23, 8), (26, 0)]))
def gc_H121 : List tk_Hd := []
theorem gc_121 (hU : gc_U tw) (hxt : tk_xtok xt) : tk_KS l D gk_cl gk_tbl gk_xw xt gk_MN gk_P gc_TY ro (gc_X tw) ads tw 3 gc_K121 := tk_contract (hk := tk_hk0) tk_hk0_ok (gc_xs hU) hxt gk_rok [34, 200] 9000 1 0 (Ks := [gc_K80]) (d := 1) (List.forall_mem_cons.mpr ⟨tk_KS_up (by decide) (gc_80 hU hxt), (fun _ h => absurd h List.not_mem_nil)⟩) (Hs := gc_H121) (by decide +kernel) rfl
/-- GooseIce.rescue -/
def gc_K122 : tk_K := (151, [(2, 0, 0, 0), (0, 1, 1, 0)], ([((-2147483648), 2147483647)], []), [0], [], ([(some (0, 2, 1, 0), ([((-2147483648), 2147483647), ((-1), 63), (0, 7)], []), [0], [(0, (0, 0, 0, 0), (0, 3, 1, 0))])], [(0, 0), (16, 0), (23, 8), (26, 0)]))
def gc_H122 : List tk_Hd := []
theorem gc_122 (hU : gc_U tw) (hxt : tk_xtok xt) : tk_KS l D gk_cl gk_tbl gk_xw xt gk_MN gk_P gc_TY ro (gc_X tw) ads tw 5 gc_K122 := tk_contract (hk := tk_hk0) tk_hk0_ok (gc_xs hU) hxt gk_rok [3, 186, 187] 9000 1 0 (Ks := [gc_K121, gc_K80]) (d := 3) (List.forall_mem_cons.mpr ⟨tk_KS_up (by decide) (gc_121 hU hxt), (List.forall_mem_cons.mpr ⟨tk_KS_up (by decide) (gc_80 hU hxt), (fun _ h => absurd h List.not_mem_nil)⟩)⟩) (Hs := gc_H122) (by decide +kernel) rfl
/-- GooseIce.melt -/
def gc_K123 : tk_K := (152, [(2, 0, 0, 0), (0, 1, 1, 0)], ([((-2147483648), 2147483647)], []), [0], [], ([(some (0, 2, 1, 0), ([((-2147483648), 2147483647), ((-1), 63), (0, 7)], []), [0], [(0, (0, 0, 0, 0), (0, 3, 1, 0))])], [(0, 0), (18, 4), (18, 5), (19, 0), (21, 0), (22, 0), (23, 8), (23, 9)]))
def gc_H123 : List tk_Hd := []
theorem gc_123 (hU : gc_U tw) (hxt : tk_xtok xt) : tk_KS l D gk_cl gk_tbl gk_xw xt gk_MN gk_P gc_TY ro (gc_X tw) ads tw 6 gc_K123 := tk_contract (hk := tk_hk0) tk_hk0_ok (gc_xs hU) hxt gk_rok [34, 36, 186, 187] 9000 2 0 (Ks := [gc_K90, gc_K80]) (d := 3) (List.forall_mem_cons.mpr ⟨tk_KS_up (by decide) (gc_90 hU hxt), (List.forall_mem_cons.mpr ⟨tk_KS_up (by decide) (gc_80 hU hxt), (fun _ h => absurd h List.not_mem_nil)⟩)⟩) (Hs := gc_H123) (by decide +kernel) rfl
/-- GooseIce.weigh -/
def gc_K124 : tk_K := (153, [(2, 0, 0, 0), (0, 1, 1, 0), (0, 2, 1, 0)], ([((-2147483648), 2147483647), ((-2147483648), 2147483647)], []), [0], [], ([(some (0, 0, 0, 0), ([((-2147483648), 2147483647), ((-2147483648), 2147483647)], []), [0], [(0, (0, 0, 0, 0), (0, 0, 0, 1))]), (some (0, 0, 0, 1), ([(0, 7), (1, 99)], []), [0], [(0, (0, 0, 0, 0), (0, 0, 0, 0))])], [(0, 0), (25, 0)]))
def gc_H124 : List tk_Hd := []
theorem gc_124 (hU : gc_U tw) (hxt : tk_xtok xt) : tk_KS l D gk_cl gk_tbl gk_xw xt gk_MN gk_P gc_TY ro (gc_X tw) ads tw 2 gc_K124 := tk_contract (hk := tk_hk0) tk_hk0_ok (gc_xs hU) hxt gk_rok [3, 188, 189] 9000 1 0 (Ks := []) (d := 0) (fun _ h => absurd h List.not_mem_nil) (Hs := gc_H124) (by decide +kernel) rfl
/-- GooseIce.hew -/
def gc_K125 : tk_K := (154, [(2, 0, 0, 0), (0, 1, 1, 0), (0, 2, 1, 0), (0, 3, 1, 0)], ([((-2147483648), 2147483647), ((-2147483648), 2147483647), (0, 1)], []), [0], [], ([(some (0, 0, 0, 0), ([((-2147483648), 2147483647), ((-2147483648), 2147483647), (0, 1), (1, 7)], []), [0], [(0, (0, 0, 0, 0), (0, 4, 1, 0))]), (some (0, 0, 0, 1), ([(0, 9), (0, 9), (0, 1)], []), [0], [(0, (0, 0, 0, 0), (0, 0, 0, 0))])], [(0, 0), (14, 0)]))
def gc_H125 : List tk_Hd := []
theorem gc_125 (hU : gc_U tw) (hxt : tk_xtok xt) : tk_KS l D gk_cl gk_tbl gk_xw xt gk_MN gk_P gc_TY ro (gc_X tw) ads tw 3 gc_K125 := tk_contract (hk := tk_hk0) tk_hk0_ok (gc_xs hU) hxt gk_rok [34, 37, 188, 189] 9000 2 0 (Ks := []) (d := 0) (fun _ h => absurd h List.not_mem_nil) (Hs := gc_H125) (by decide +kernel) rfl
/-- GooseIce.bears -/
def gc_K126 : tk_K := (155, [(2, 0, 0, 0), (0, 1, 1, 0), (0, 2, 1, 0)], ([((-2147483648), 2147483647), ((-2147483648), 2147483647)], []), [0], [], ([(some (0, 3, 1, 0), ([((-2147483648), 2147483647), ((-2147483648), 2147483647), ((-1), 1), (0, 1)], []), [0], [(0, (0, 0, 0, 0), (0, 4, 1, 0))])], [(0, 0)]))
def gc_H126 : List tk_Hd := []
theorem gc_126 (hU : gc_U tw) (hxt : tk_xtok xt) : tk_KS l D gk_cl gk_tbl gk_xw xt gk_MN gk_P gc_TY ro (gc_X tw) ads tw 6 gc_K126 := tk_contract (hk := tk_hk0) tk_hk0_ok (gc_xs hU) hxt gk_rok [3, 34, 186, 187] 9000 1 0 (Ks := [gc_K77]) (d := 4) (List.forall_mem_cons.mpr ⟨tk_KS_up (by decide) (gc_77 hU hxt), (fun _ h => absurd h List.not_mem_nil)⟩) (Hs := gc_H126) (by decide +kernel) rfl
/-- GooseIce.margin -/
def gc_K127 : tk_K := (156, [(2, 0, 0, 0), (0, 1, 1, 0), (0, 2, 1, 0)], ([((-2147483648), 2147483647), ((-2147483648), 2147483647)], []), [0], [], ([(some (0, 3, 1, 0), ([((-2147483648), 2147483647), ((-2147483648), 2147483647), ((-2147483648), 2147483647), (0, 1)], []), [0], [(0, (0, 0, 0, 0), (0, 4, 1, 0))])], [(0, 0)]))
def gc_H127 : List tk_Hd := []
theorem gc_127 (hU : gc_U tw) (hxt : tk_xtok xt) : tk_KS l D gk_cl gk_tbl gk_xw xt gk_MN gk_P gc_TY ro (gc_X tw) ads tw 4 gc_K127 := tk_contract (hk := tk_hk0) tk_hk0_ok (gc_xs hU) hxt gk_rok [3, 34, 186, 187] 9000 1 0 (Ks := [gc_K76]) (d := 2) (List.forall_mem_cons.mpr ⟨tk_KS_up (by decide) (gc_76 hU hxt), (fun _ h => absurd h List.not_mem_nil)⟩) (Hs := gc_H127) (by decide +kernel) rfl
/-- GooseIce.far -/
def gc_K128 : tk_K := (157, [(2, 0, 0, 0), (0, 1, 1, 0), (0, 2, 1, 0)], ([((-2147483648), 2147483647), ((-2147483648), 2147483647)], []), [0], [], ([(some (0, 3, 1, 0), ([((-2147483648), 2147483647), ((-2147483648), 2147483647), ((-1), 10), (0, 6)], []), [0], [(0, (0, 0, 0, 0), (0, 4, 1, 0))])], [(0, 0), (91, 4), (92, 0), (93, 0)]))
def gc_H128 : List tk_Hd := []
theorem gc_128 (hU : gc_U tw) (hxt : tk_xtok xt) : tk_KS l D gk_cl gk_tbl gk_xw xt gk_MN gk_P gc_TY ro (gc_X tw) ads tw 6 gc_K128 := tk_contract (hk := tk_hk0) tk_hk0_ok (gc_xs hU) hxt gk_rok [3, 34, 186, 187, 195] 9000 1 0 (Ks := [gc_K77, gc_K81]) (d := 4) (List.forall_mem_cons.mpr ⟨tk_KS_up (by decide) (gc_77 hU hxt), (List.forall_mem_cons.mpr ⟨tk_KS_up (by decide) (gc_81 hU hxt), (fun _ h => absurd h List.not_mem_nil)⟩)⟩) (Hs := gc_H128) (by decide +kernel) rfl
/-- GooseIce.wayAt -/
def gc_K129 : tk_K := (158, [(2, 0, 0, 0), (0, 1, 1, 0), (0, 2, 1, 0), (0, 3, 1, 0)], ([((-2147483648), 2147483647), ((-2147483648), 2147483647), ((-2147483648), 2147483647)], []), [0], [], ([(some (0, 4, 1, 0), ([((-2147483648), 2147483647), ((-2147483648), 2147483647), ((-2147483648), 2147483647), ((-1), 9), (0, 6)], []), [0], [(0, (0, 0, 0, 0), (0, 5, 1, 0))])], [(0, 0), (91, 4), (92, 0), (93, 0)]))
def gc_H129 : List tk_Hd := []
theorem gc_129 (hU : gc_U tw) (hxt : tk_xtok xt) : tk_KS l D gk_cl gk_tbl gk_xw xt gk_MN gk_P gc_TY ro (gc_X tw) ads tw 6 gc_K129 := tk_contract (hk := tk_hk0) tk_hk0_ok (gc_xs hU) hxt gk_rok [3, 34, 80, 186, 187, 195] 9000 1 0 (Ks := [gc_K77, gc_K81]) (d := 4) (List.forall_mem_cons.mpr ⟨tk_KS_up (by decide) (gc_77 hU hxt), (List.forall_mem_cons.mpr ⟨tk_KS_up (by decide) (gc_81 hU hxt), (fun _ h => absurd h List.not_mem_nil)⟩)⟩) (Hs := gc_H129) (by decide +kernel) rfl
/-- Paths.sparing -/
def gc_K130 : tk_K := (84, [(2, 0, 0, 0), (2, 1, 0, 0), (0, 1, 1, 0)], ([((-2147483648), 2147483647), (1, 10)], []), [91, 12], [(1, (0, 0, 0, 8), (0, 2, 1, 0))], ([(some (0, 3, 1, 0), ([((-2147483648), 2147483647), (1, 10), (0, 2147483647)], []), [91, 12], [])], []))
def gc_H130 : List tk_Hd := [(5, [(0, (2, 0, 0, 0)), (1, (2, 1, 0, 0)), (2, (0, 1, 1, 0)), (3, (0, 3, 1, 0)), (4, (0, 4, 1, 0))], ([((-2147483648), 2147483647), (1, 10), (0, 2147483647), (0, 2147483647)], []), [91, 12], [(1, (0, 0, 0, 8), (0, 2, 1, 0))], [(0, 0, (0, 0, 0, 0)), (1, 2147483647, (0, 4, 1, 0)), (0, 0, (0, 0, 0, 0))])]
theorem gc_130 (hU : gc_U tw) (hxt : tk_xtok xt) : tk_KS l D gk_cl gk_tbl gk_xw xt gk_MN gk_P gc_TY ro (gc_X tw) ads tw 1 gc_K130 := tk_contract (hk := tk_hk0) tk_hk0_ok (gc_xs hU) hxt gk_rok [] 9000 0 3 (Ks := []) (d := 0) (fun _ h => absurd h List.not_mem_nil) (Hs := gc_H130) (by decide +kernel) rfl
/-- Lake.flood -/
def gc_K131 : tk_K := (47, [(2, 0, 0, 0), (0, 1, 1, 0), (0, 2, 1, 0)], ([(0, 9), (0, 2147483647)], []), [12], [], ([(some (0, 3, 1, 0), ([(0, 9), (0, 2147483647), (0, 1023)], []), [12], [])], []))
def gc_H131 : List tk_Hd := [(7, [(0, (2, 0, 0, 0)), (1, (0, 1, 1, 0)), (2, (0, 2, 1, 0)), (3, (0, 3, 1, 0)), (4, (0, 4, 1, 0))], ([(0, 9), (0, 2147483647), (0, 1023), (0, 2147483647)], []), [12], [], [(0, 0, (0, 0, 0, 0)), (1, 2147483647, (0, 4, 1, 0)), (0, 0, (0, 0, 0, 0))])]
theorem gc_131 (hU : gc_U tw) (hxt : tk_xtok xt) : tk_KS l D gk_cl gk_tbl gk_xw xt gk_MN gk_P gc_TY ro (gc_X tw) ads tw 2 gc_K131 := tk_contract (hk := tk_hk0) tk_hk0_ok (gc_xs hU) hxt gk_rok [] 9000 0 3 (Ks := [gc_K78]) (d := 1) (List.forall_mem_cons.mpr ⟨tk_KS_up (by decide) (gc_78 hU hxt), (fun _ h => absurd h List.not_mem_nil)⟩) (Hs := gc_H131) (by decide +kernel) rfl
/-- Paths.findSurest -/
def gc_K132 : tk_K := (83, [(2, 0, 0, 0), (2, 1, 0, 0), (0, 1, 1, 0), (0, 2, 1, 0)], ([(0, 7), (0, 9), (1, 10)], []), [91, 12], [(1, (0, 0, 0, 8), (0, 3, 1, 0))], ([(some (0, 0, 0, 0), ([(0, 7), (0, 9), (1, 10)], []), [91, 12], []), (some (0, 0, 0, 1), ([(0, 7), (0, 9), (1, 10)], []), [91, 12], [])], [(91, 4), (91, 5), (92, 0), (93, 0), (94, 0)]))
def gc_H132 : List tk_Hd := [(14, [(0, (2, 0, 0, 0)), (1, (2, 1, 0, 0)), (2, (0, 1, 1, 0)), (3, (0, 2, 1, 0)), (4, (0, 4, 1, 0)), (5, (0, 5, 1, 0))], ([(0, 7), (0, 9), (1, 10), (0, 9), (0, 2147483647)], []), [91, 12], [(1, (0, 0, 0, 8), (0, 3, 1, 0))], [(0, 1, (0, 0, 0, 0)), (1, 2147483647, (0, 5, 1, 0)), (0, 0, (0, 0, 0, 0))]), (49, [(0, (2, 0, 0, 0)), (1, (2, 1, 0, 0)), (2, (0, 1, 1, 0)), (3, (0, 2, 1, 0)), (4, (0, 4, 1, 0)), (5, (0, 5, 1, 0)), (6, (0, 6, 1, 0))], ([(0, 7), (0, 9), (1, 10), (0, 9), (0, 1), (0, 2147483647)], []), [91, 12], [(1, (0, 0, 0, 8), (0, 3, 1, 0))], [(0, 0, (0, 0, 0, 0)), (1, 2147483647, (0, 6, 1, 0)), (0, 0, (0, 0, 0, 0))])]
theorem gc_132 (hU : gc_U tw) (hxt : tk_xtok xt) : tk_KS l D gk_cl gk_tbl gk_xw xt gk_MN gk_P gc_TY ro (gc_X tw) ads tw 5 gc_K132 := tk_contract (hk := tk_hk0) tk_hk0_ok (gc_xs hU) hxt gk_rok [] 9000 0 3 (Ks := [gc_K76, gc_K130, gc_K81, gc_K131]) (d := 4) (List.forall_mem_cons.mpr ⟨tk_KS_up (by decide) (gc_76 hU hxt), (List.forall_mem_cons.mpr ⟨tk_KS_up (by decide) (gc_130 hU hxt), (List.forall_mem_cons.mpr ⟨tk_KS_up (by decide) (gc_81 hU hxt), (List.forall_mem_cons.mpr ⟨tk_KS_up (by decide) (gc_131 hU hxt), (fun _ h => absurd h List.not_mem_nil)⟩)⟩)⟩)⟩) (Hs := gc_H132) (by decide +kernel) rfl
/-- GooseIce.surest -/
def gc_K133 : tk_K := (159, [(2, 0, 0, 0), (0, 1, 1, 0), (0, 2, 1, 0)], ([((-2147483648), 2147483647), ((-2147483648), 2147483647)], []), [0], [], ([(some (0, 3, 1, 0), ([((-2147483648), 2147483647), ((-2147483648), 2147483647), ((-2147483648), 2147483647), (0, 6)], []), [0], [(0, (0, 0, 0, 0), (0, 4, 1, 0))])], [(0, 0), (91, 4), (91, 5), (92, 0), (93, 0), (94, 0)]))
def gc_H133 : List tk_Hd := []
theorem gc_133 (hU : gc_U tw) (hxt : tk_xtok xt) : tk_KS l D gk_cl gk_tbl gk_xw xt gk_MN gk_P gc_TY ro (gc_X tw) ads tw 8 gc_K133 := tk_contract (hk := tk_hk0) tk_hk0_ok (gc_xs hU) hxt gk_rok [3, 34, 186, 187, 196] 9000 2 0 (Ks := [gc_K132]) (d := 5) (List.forall_mem_cons.mpr ⟨tk_KS_up (by decide) (gc_132 hU hxt), (fun _ h => absurd h List.not_mem_nil)⟩) (Hs := gc_H133) (by decide +kernel) rfl
/-- GooseIce.surestFar -/
def gc_K134 : tk_K := (160, [(2, 0, 0, 0), (0, 1, 1, 0), (0, 2, 1, 0)], ([((-2147483648), 2147483647), ((-2147483648), 2147483647)], []), [0], [], ([(some (0, 3, 1, 0), ([((-2147483648), 2147483647), ((-2147483648), 2147483647), ((-1), 10), (0, 6)], []), [0], [(0, (0, 0, 0, 0), (0, 4, 1, 0))])], [(0, 0), (91, 4), (91, 5), (92, 0), (93, 0), (94, 0)]))
def gc_H134 : List tk_Hd := []
theorem gc_134 (hU : gc_U tw) (hxt : tk_xtok xt) : tk_KS l D gk_cl gk_tbl gk_xw xt gk_MN gk_P gc_TY ro (gc_X tw) ads tw 8 gc_K134 := tk_contract (hk := tk_hk0) tk_hk0_ok (gc_xs hU) hxt gk_rok [3, 34, 186, 187, 196] 9000 2 0 (Ks := [gc_K132]) (d := 5) (List.forall_mem_cons.mpr ⟨tk_KS_up (by decide) (gc_132 hU hxt), (fun _ h => absurd h List.not_mem_nil)⟩) (Hs := gc_H134) (by decide +kernel) rfl
/-- GooseIce.surestAt -/
def gc_K135 : tk_K := (161, [(2, 0, 0, 0), (0, 1, 1, 0), (0, 2, 1, 0), (0, 3, 1, 0)], ([((-2147483648), 2147483647), ((-2147483648), 2147483647), ((-2147483648), 2147483647)], []), [0], [], ([(some (0, 4, 1, 0), ([((-2147483648), 2147483647), ((-2147483648), 2147483647), ((-2147483648), 2147483647), ((-1), 9), (0, 6)], []), [0], [(0, (0, 0, 0, 0), (0, 5, 1, 0))])], [(0, 0), (91, 4), (91, 5), (92, 0), (93, 0), (94, 0)]))
def gc_H135 : List tk_Hd := []
theorem gc_135 (hU : gc_U tw) (hxt : tk_xtok xt) : tk_KS l D gk_cl gk_tbl gk_xw xt gk_MN gk_P gc_TY ro (gc_X tw) ads tw 8 gc_K135 := tk_contract (hk := tk_hk0) tk_hk0_ok (gc_xs hU) hxt gk_rok [3, 34, 80, 186, 187, 196] 9000 2 0 (Ks := [gc_K132]) (d := 5) (List.forall_mem_cons.mpr ⟨tk_KS_up (by decide) (gc_132 hU hxt), (fun _ h => absurd h List.not_mem_nil)⟩) (Hs := gc_H135) (by decide +kernel) rfl
/-- GooseIce.reach -/
def gc_K136 : tk_K := (162, [(2, 0, 0, 0), (0, 1, 1, 0)], ([((-2147483648), 2147483647)], []), [0], [], ([(some (0, 2, 1, 0), ([((-2147483648), 2147483647), ((-1), 1023), (0, 1)], []), [0], [(0, (0, 0, 0, 0), (0, 3, 1, 0))])], [(0, 0)]))
def gc_H136 : List tk_Hd := []
theorem gc_136 (hU : gc_U tw) (hxt : tk_xtok xt) : tk_KS l D gk_cl gk_tbl gk_xw xt gk_MN gk_P gc_TY ro (gc_X tw) ads tw 6 gc_K136 := tk_contract (hk := tk_hk0) tk_hk0_ok (gc_xs hU) hxt gk_rok [3, 186, 187] 9000 1 0 (Ks := [gc_K77, gc_K131]) (d := 4) (List.forall_mem_cons.mpr ⟨tk_KS_up (by decide) (gc_77 hU hxt), (List.forall_mem_cons.mpr ⟨tk_KS_up (by decide) (gc_131 hU hxt), (fun _ h => absurd h List.not_mem_nil)⟩)⟩) (Hs := gc_H136) (by decide +kernel) rfl
/-- Paths.fewestWithout -/
def gc_K137 : tk_K := (85, [(2, 0, 0, 0), (2, 1, 0, 0), (0, 1, 1, 0), (0, 2, 1, 0)], ([(0, 7), (0, 9), (1, 10)], []), [91, 12], [(1, (0, 0, 0, 8), (0, 3, 1, 0))], ([(some (0, 4, 1, 0), ([(0, 7), (0, 9), (1, 10), ((-1), 1023)], []), [91, 12], [])], []))
def gc_H137 : List tk_Hd := [(67, [(0, (2, 0, 0, 0)), (1, (2, 1, 0, 0)), (2, (0, 1, 1, 0)), (3, (0, 2, 1, 0)), (4, (0, 4, 1, 0)), (5, (0, 5, 1, 0)), (6, (0, 6, 1, 0)), (7, (0, 7, 1, 0)), (8, (0, 8, 1, 0)), (9, (0, 9, 1, 0))], ([(0, 7), (0, 9), (1, 10), (0, 9), (0, 1023), (0, 1023), ((-1), 1023), (0, 1023), (0, 2147483647)], []), [91, 12], [(1, (0, 0, 0, 8), (0, 3, 1, 0))], [(0, 0, (0, 0, 0, 0)), (1, 2147483647, (0, 9, 1, 0)), (0, 0, (0, 0, 0, 0))])]
theorem gc_137 (hU : gc_U tw) (hxt : tk_xtok xt) : tk_KS l D gk_cl gk_tbl gk_xw xt gk_MN gk_P gc_TY ro (gc_X tw) ads tw 5 gc_K137 := tk_contract (hk := tk_hk0) tk_hk0_ok (gc_xs hU) hxt gk_rok [] 9000 0 3 (Ks := [gc_K77, gc_K131, gc_K80]) (d := 4) (List.forall_mem_cons.mpr ⟨tk_KS_up (by decide) (gc_77 hU hxt), (List.forall_mem_cons.mpr ⟨tk_KS_up (by decide) (gc_131 hU hxt), (List.forall_mem_cons.mpr ⟨tk_KS_up (by decide) (gc_80 hU hxt), (fun _ h => absurd h List.not_mem_nil)⟩)⟩)⟩) (Hs := gc_H137) (by decide +kernel) rfl
/-- GooseIce.cut -/
def gc_K138 : tk_K := (163, [(2, 0, 0, 0), (0, 1, 1, 0), (0, 2, 1, 0)], ([((-2147483648), 2147483647), ((-2147483648), 2147483647)], []), [0], [], ([(some (0, 3, 1, 0), ([((-2147483648), 2147483647), ((-2147483648), 2147483647), ((-1), 63), (0, 6)], []), [0], [(0, (0, 0, 0, 0), (0, 4, 1, 0))])], [(0, 0)]))
def gc_H138 : List tk_Hd := []
theorem gc_138 (hU : gc_U tw) (hxt : tk_xtok xt) : tk_KS l D gk_cl gk_tbl gk_xw xt gk_MN gk_P gc_TY ro (gc_X tw) ads tw 8 gc_K138 := tk_contract (hk := tk_hk0) tk_hk0_ok (gc_xs hU) hxt gk_rok [3, 34, 186, 187, 196] 9000 2 0 (Ks := [gc_K137, gc_K80]) (d := 5) (List.forall_mem_cons.mpr ⟨tk_KS_up (by decide) (gc_137 hU hxt), (List.forall_mem_cons.mpr ⟨tk_KS_up (by decide) (gc_80 hU hxt), (fun _ h => absurd h List.not_mem_nil)⟩)⟩) (Hs := gc_H138) (by decide +kernel) rfl
/-- GooseIce.cutSet -/
def gc_K139 : tk_K := (164, [(2, 0, 0, 0), (0, 1, 1, 0), (0, 2, 1, 0)], ([((-2147483648), 2147483647), ((-2147483648), 2147483647)], []), [0], [], ([(some (0, 3, 1, 0), ([((-2147483648), 2147483647), ((-2147483648), 2147483647), ((-1), 1023), (0, 6)], []), [0], [(0, (0, 0, 0, 0), (0, 4, 1, 0))])], [(0, 0)]))
def gc_H139 : List tk_Hd := []
theorem gc_139 (hU : gc_U tw) (hxt : tk_xtok xt) : tk_KS l D gk_cl gk_tbl gk_xw xt gk_MN gk_P gc_TY ro (gc_X tw) ads tw 8 gc_K139 := tk_contract (hk := tk_hk0) tk_hk0_ok (gc_xs hU) hxt gk_rok [3, 34, 186, 187, 196] 9000 2 0 (Ks := [gc_K137]) (d := 5) (List.forall_mem_cons.mpr ⟨tk_KS_up (by decide) (gc_137 hU hxt), (fun _ h => absurd h List.not_mem_nil)⟩) (Hs := gc_H139) (by decide +kernel) rfl
/-- Lake.leastOnRoute -/
def gc_K140 : tk_K := (60, [(2, 0, 0, 0), (0, 1, 1, 0)], ([(0, 7)], []), [12], [], ([(some (0, 2, 1, 0), ([(0, 7), ((-1), 1000000)], []), [12], [])], []))
def gc_H140 : List tk_Hd := [(5, [(0, (2, 0, 0, 0)), (1, (0, 1, 1, 0)), (2, (0, 2, 1, 0)), (3, (0, 3, 1, 0))], ([(0, 7), ((-2147483648), 1000000), (0, 2147483647)], []), [12], [], [(0, 0, (0, 0, 0, 0)), (1, 2147483647, (0, 3, 1, 0)), (0, 0, (0, 0, 0, 0))])]
theorem gc_140 (hU : gc_U tw) (hxt : tk_xtok xt) : tk_KS l D gk_cl gk_tbl gk_xw xt gk_MN gk_P gc_TY ro (gc_X tw) ads tw 5 gc_K140 := tk_contract (hk := tk_hk0) tk_hk0_ok (gc_xs hU) hxt gk_rok [11, 34, 36] 9000 2 3 (Ks := [gc_K67, gc_K76]) (d := 2) (List.forall_mem_cons.mpr ⟨tk_KS_up (by decide) (gc_67 hU hxt), (List.forall_mem_cons.mpr ⟨tk_KS_up (by decide) (gc_76 hU hxt), (fun _ h => absurd h List.not_mem_nil)⟩)⟩) (Hs := gc_H140) (by decide +kernel) rfl
/-- GooseIce.heaviest -/
def gc_K141 : tk_K := (165, [(2, 0, 0, 0), (0, 1, 1, 0)], ([((-2147483648), 2147483647)], []), [0], [], ([(some (0, 2, 1, 0), ([((-2147483648), 2147483647), ((-1), 1000000), (0, 6)], []), [0], [(0, (0, 0, 0, 0), (0, 3, 1, 0))])], [(0, 0)]))
def gc_H141 : List tk_Hd := []
theorem gc_141 (hU : gc_U tw) (hxt : tk_xtok xt) : tk_KS l D gk_cl gk_tbl gk_xw xt gk_MN gk_P gc_TY ro (gc_X tw) ads tw 7 gc_K141 := tk_contract (hk := tk_hk0) tk_hk0_ok (gc_xs hU) hxt gk_rok [3, 186, 187] 9000 1 0 (Ks := [gc_K140]) (d := 5) (List.forall_mem_cons.mpr ⟨tk_KS_up (by decide) (gc_140 hU hxt), (fun _ h => absurd h List.not_mem_nil)⟩) (Hs := gc_H141) (by decide +kernel) rfl
/-- Lake.frailest -/
def gc_K142 : tk_K := (61, [(2, 0, 0, 0)], ([], []), [12], [], ([(some (0, 1, 1, 0), ([((-1), 9)], []), [12], [])], []))
def gc_H142 : List tk_Hd := [(4, [(0, (2, 0, 0, 0)), (1, (0, 1, 1, 0)), (2, (0, 2, 1, 0))], ([((-1), 9), (0, 10)], []), [12], [], [(0, 0, (0, 0, 0, 0)), (1, 10, (0, 2, 1, 0)), (0, 0, (0, 0, 0, 0))])]
theorem gc_142 (hU : gc_U tw) (hxt : tk_xtok xt) : tk_KS l D gk_cl gk_tbl gk_xw xt gk_MN gk_P gc_TY ro (gc_X tw) ads tw 3 gc_K142 := tk_contract (hk := tk_hk0) tk_hk0_ok (gc_xs hU) hxt gk_rok [34, 36, 40] 9000 2 3 (Ks := []) (d := 0) (fun _ h => absurd h List.not_mem_nil) (Hs := gc_H142) (by decide +kernel) rfl
/-- GooseIce.weakest -/
def gc_K143 : tk_K := (166, [(2, 0, 0, 0)], ([], []), [0], [], ([(some (0, 1, 1, 0), ([((-1), 9), (0, 6)], []), [0], [(0, (0, 0, 0, 0), (0, 2, 1, 0))])], [(0, 0)]))
def gc_H143 : List tk_Hd := []
theorem gc_143 (hU : gc_U tw) (hxt : tk_xtok xt) : tk_KS l D gk_cl gk_tbl gk_xw xt gk_MN gk_P gc_TY ro (gc_X tw) ads tw 5 gc_K143 := tk_contract (hk := tk_hk0) tk_hk0_ok (gc_xs hU) hxt gk_rok [186, 187] 9000 1 0 (Ks := [gc_K142]) (d := 3) (List.forall_mem_cons.mpr ⟨tk_KS_up (by decide) (gc_142 hU hxt), (fun _ h => absurd h List.not_mem_nil)⟩) (Hs := gc_H143) (by decide +kernel) rfl
/-- Lake.notCarried -/
def gc_K144 : tk_K := (44, [(2, 0, 0, 0), (0, 1, 1, 0)], ([(0, 9), (1, 10)], []), [12], [(0, (0, 0, 0, 8), (0, 2, 1, 0))], ([(some (0, 3, 1, 0), ([(0, 9), (1, 10), (0, 2147483647)], []), [12], [])], []))
def gc_H144 : List tk_Hd := [(35, [(0, (2, 0, 0, 0)), (1, (0, 1, 1, 0)), (2, (0, 3, 1, 0)), (3, (0, 4, 1, 0)), (4, (0, 5, 1, 0))], ([(0, 9), (1, 10), (0, 2147483647), (0, 1), (0, 2147483647)], []), [12], [(0, (0, 0, 0, 8), (0, 2, 1, 0))], [(0, 0, (0, 0, 0, 0)), (1, 2147483647, (0, 5, 1, 0)), (0, 0, (0, 0, 0, 0))])]
theorem gc_144 (hU : gc_U tw) (hxt : tk_xtok xt) : tk_KS l D gk_cl gk_tbl gk_xw xt gk_MN gk_P gc_TY ro (gc_X tw) ads tw 5 gc_K144 := tk_contract (hk := tk_hk0) tk_hk0_ok (gc_xs hU) hxt gk_rok [34, 35] 9000 2 3 (Ks := [gc_K76]) (d := 2) (List.forall_mem_cons.mpr ⟨tk_KS_up (by decide) (gc_76 hU hxt), (fun _ h => absurd h List.not_mem_nil)⟩) (Hs := gc_H144) (by decide +kernel) rfl
/-- GooseIce.tooHeavy -/
def gc_K145 : tk_K := (167, [(2, 0, 0, 0), (0, 1, 1, 0)], ([((-2147483648), 2147483647)], []), [0], [], ([(some (0, 2, 1, 0), ([((-2147483648), 2147483647), ((-1), 2147483647), (0, 1)], []), [0], [(0, (0, 0, 0, 0), (0, 3, 1, 0))])], [(0, 0)]))
def gc_H145 : List tk_Hd := []
theorem gc_145 (hU : gc_U tw) (hxt : tk_xtok xt) : tk_KS l D gk_cl gk_tbl gk_xw xt gk_MN gk_P gc_TY ro (gc_X tw) ads tw 7 gc_K145 := tk_contract (hk := tk_hk0) tk_hk0_ok (gc_xs hU) hxt gk_rok [34, 186, 187] 9000 1 0 (Ks := [gc_K144]) (d := 5) (List.forall_mem_cons.mpr ⟨tk_KS_up (by decide) (gc_144 hU hxt), (fun _ h => absurd h List.not_mem_nil)⟩) (Hs := gc_H145) (by decide +kernel) rfl
/-- Lake.stepsTillStrong -/
def gc_K146 : tk_K := (62, [(2, 0, 0, 0), (0, 1, 1, 0), (0, 2, 1, 0)], ([(0, 9), (0, 999), (1, 10)], []), [12], [(0, (0, 0, 0, 8), (0, 3, 1, 0))], ([(some (0, 4, 1, 0), ([(0, 9), (0, 999), (1, 10), ((-1), 20)], []), [12], [])], []))
def gc_H146 : List tk_Hd := [(40, [(0, (2, 0, 0, 0)), (1, (0, 1, 1, 0)), (2, (0, 2, 1, 0)), (3, (0, 4, 1, 0)), (4, (0, 5, 1, 0)), (5, (0, 6, 1, 0))], ([(0, 9), (0, 999), (1, 10), ((-2147483648), 2147483647), ((-2147483648), 2147483647), (0, 2147483647)], []), [12], [(0, (0, 0, 0, 8), (0, 3, 1, 0))], [(0, 0, (0, 0, 0, 0)), (1, 2147483647, (0, 6, 1, 0)), (0, 0, (0, 0, 0, 0))])]
theorem gc_146 (hU : gc_U tw) (hxt : tk_xtok xt) : tk_KS l D gk_cl gk_tbl gk_xw xt gk_MN gk_P gc_TY ro (gc_X tw) ads tw 1 gc_K146 := tk_contract (hk := tk_hk0) tk_hk0_ok (gc_xs hU) hxt gk_rok [] 9000 0 3 (Ks := []) (d := 0) (fun _ h => absurd h List.not_mem_nil) (Hs := gc_H146) (by decide +kernel) rfl
/-- GooseIce.ready -/
def gc_K147 : tk_K := (168, [(2, 0, 0, 0), (0, 1, 1, 0), (0, 2, 1, 0)], ([((-2147483648), 2147483647), ((-2147483648), 2147483647)], []), [0], [], ([(some (0, 3, 1, 0), ([((-2147483648), 2147483647), ((-2147483648), 2147483647), ((-1), 20), (0, 6)], []), [0], [(0, (0, 0, 0, 0), (0, 4, 1, 0))])], [(0, 0)]))
def gc_H147 : List tk_Hd := []
theorem gc_147 (hU : gc_U tw) (hxt : tk_xtok xt) : tk_KS l D gk_cl gk_tbl gk_xw xt gk_MN gk_P gc_TY ro (gc_X tw) ads tw 4 gc_K147 := tk_contract (hk := tk_hk0) tk_hk0_ok (gc_xs hU) hxt gk_rok [34, 36, 186, 187] 9000 2 0 (Ks := [gc_K146]) (d := 1) (List.forall_mem_cons.mpr ⟨tk_KS_up (by decide) (gc_146 hU hxt), (fun _ h => absurd h List.not_mem_nil)⟩) (Hs := gc_H147) (by decide +kernel) rfl
/-- Lake.sharedShore -/
def gc_K148 : tk_K := (48, [(2, 0, 0, 0), (0, 1, 1, 0)], ([(1, 255)], []), [12], [], ([(some (0, 2, 1, 0), ([(1, 255), ((-1), 9)], []), [12], [])], []))
def gc_H148 : List tk_Hd := []
theorem gc_148 (hU : gc_U tw) (hxt : tk_xtok xt) : tk_KS l D gk_cl gk_tbl gk_xw xt gk_MN gk_P gc_TY ro (gc_X tw) ads tw 4 gc_K148 := tk_contract (hk := tk_hk0) tk_hk0_ok (gc_xs hU) hxt gk_rok [34, 35, 200] 9000 2 0 (Ks := [gc_K80]) (d := 1) (List.forall_mem_cons.mpr ⟨tk_KS_up (by decide) (gc_80 hU hxt), (fun _ h => absurd h List.not_mem_nil)⟩) (Hs := gc_H148) (by decide +kernel) rfl
/-- Queue.meetsBroken -/
def gc_K149 : tk_K := (93, [(2, 0, 0, 0), (2, 1, 0, 0), (0, 1, 1, 0)], ([(1, 12)], []), [12, 5], [], ([(some (0, 0, 0, 0), ([(1, 12)], []), [12, 5], []), (some (0, 0, 0, 1), ([(1, 12)], []), [12, 5], [])], []))
def gc_H149 : List tk_Hd := [(2, [(0, (2, 0, 0, 0)), (1, (2, 1, 0, 0)), (2, (0, 1, 1, 0)), (3, (0, 2, 1, 0))], ([(1, 12), (0, 12)], []), [12, 5], [], [(0, 0, (0, 0, 0, 0)), (1, 12, (0, 2, 1, 0)), (0, 0, (0, 0, 0, 0))])]
theorem gc_149 (hU : gc_U tw) (hxt : tk_xtok xt) : tk_KS l D gk_cl gk_tbl gk_xw xt gk_MN gk_P gc_TY ro (gc_X tw) ads tw 1 gc_K149 := tk_contract (hk := tk_hk0) tk_hk0_ok (gc_xs hU) hxt gk_rok [] 9000 0 3 (Ks := []) (d := 0) (fun _ h => absurd h List.not_mem_nil) (Hs := gc_H149) (by decide +kernel) rfl
/-- Queue.gather -/
def gc_K150 : tk_K := (94, [(2, 0, 0, 0), (0, 1, 1, 0)], ([(1, 255), (1, 12)], []), [96], [(0, (0, 0, 0, 10), (0, 2, 1, 0)), (0, (0, 0, 0, 8), (0, 0, 0, 1000000))], ([(none, ([(1, 255), (1, 12)], []), [96], [])], [(96, 9), (202, 0)]))
def gc_H150 : List tk_Hd := [(7, [(0, (2, 0, 0, 0)), (1, (0, 1, 1, 0)), (2, (0, 3, 1, 0))], ([(1, 255), (1, 12), (0, 8), (0, 4)], []), [96], [(0, (0, 0, 0, 10), (0, 2, 1, 0)), (0, (0, 0, 0, 8), (0, 0, 0, 1000000)), (0, (0, 0, 0, 9), (0, 4, 1, 0))], [(0, 0, (0, 0, 0, 0)), (1, 8, (0, 3, 1, 0)), (0, 0, (0, 0, 0, 0))])]
theorem gc_150 (hU : gc_U tw) (hxt : tk_xtok xt) : tk_KS l D gk_cl gk_tbl gk_xw xt gk_MN gk_P gc_TY ro (gc_X tw) ads tw 1 gc_K150 := tk_contract (hk := tk_hk0) tk_hk0_ok (gc_xs hU) hxt gk_rok [] 9000 0 3 (Ks := []) (d := 0) (fun _ h => absurd h List.not_mem_nil) (Hs := gc_H150) (by decide +kernel) rfl
/-- Queue.arrange -/
def gc_K151 : tk_K := (95, [(2, 0, 0, 0), (0, 1, 1, 0)], ([(0, 255), (1, 12), (1, 4)], []), [96], [(0, (0, 0, 0, 10), (0, 2, 1, 0)), (0, (0, 0, 0, 9), (0, 3, 1, 0))], ([(some (0, 0, 0, 0), ([(0, 255), (1, 12), (1, 4)], []), [96], []), (some (0, 0, 0, 1), ([(0, 255), (1, 12), (1, 4)], []), [96], [])], [(203, 0)]))
def gc_H151 : List tk_Hd := [(4, [(0, (2, 0, 0, 0)), (1, (0, 1, 1, 0)), (2, (0, 4, 1, 0)), (3, (0, 5, 1, 0))], ([(0, 255), (1, 12), (1, 4), (0, 2147483647), (0, 2147483647)], []), [96], [(0, (0, 0, 0, 10), (0, 2, 1, 0)), (0, (0, 0, 0, 9), (0, 3, 1, 0))], [(0, 0, (0, 0, 0, 0)), (1, 2147483647, (0, 5, 1, 0)), (0, 0, (0, 0, 0, 0))])]
theorem gc_151 (hU : gc_U tw) (hxt : tk_xtok xt) : tk_KS l D gk_cl gk_tbl gk_xw xt gk_MN gk_P gc_TY ro (gc_X tw) ads tw 1 gc_K151 := tk_contract (hk := tk_hk0) tk_hk0_ok (gc_xs hU) hxt gk_rok [] 9000 0 3 (Ks := []) (d := 0) (fun _ h => absurd h List.not_mem_nil) (Hs := gc_H151) (by decide +kernel) rfl
/-- Ice.copyFrom -/
def gc_K152 : tk_K := (25, [(2, 0, 0, 0), (2, 1, 0, 0)], ([], []), [104, 18], [], ([(none, ([], []), [104, 18], [])], [(104, 4), (104, 5), (105, 0), (106, 0), (107, 0), (108, 0)]))
def gc_H152 : List tk_Hd := []
theorem gc_152 (hU : gc_U tw) (hxt : tk_xtok xt) : tk_KS l D gk_cl gk_tbl gk_xw xt gk_MN gk_P gc_TY ro (gc_X tw) ads tw 1 gc_K152 := tk_contract (hk := tk_hk0) tk_hk0_ok (gc_xs hU) hxt gk_rok [] 9000 0 0 (Ks := []) (d := 0) (fun _ h => absurd h List.not_mem_nil) (Hs := gc_H152) (by decide +kernel) rfl
/-- Crew.copyFrom -/
def gc_K153 : tk_K := (2, [(2, 0, 0, 0), (2, 1, 0, 0)], ([], []), [109, 23], [], ([(none, ([], []), [109, 23], [])], [(109, 7), (109, 8), (109, 9), (110, 0), (111, 0), (112, 0), (113, 0), (114, 0), (115, 0), (116, 0)]))
def gc_H153 : List tk_Hd := []
theorem gc_153 (hU : gc_U tw) (hxt : tk_xtok xt) : tk_KS l D gk_cl gk_tbl gk_xw xt gk_MN gk_P gc_TY ro (gc_X tw) ads tw 1 gc_K153 := tk_contract (hk := tk_hk0) tk_hk0_ok (gc_xs hU) hxt gk_rok [] 9000 0 0 (Ks := []) (d := 0) (fun _ h => absurd h List.not_mem_nil) (Hs := gc_H153) (by decide +kernel) rfl
/-- Lake.copyFrom -/
def gc_K154 : tk_K := (31, [(2, 0, 0, 0), (2, 1, 0, 0)], ([], []), [98, 12], [], ([(none, ([(0, 9999)], []), [98, 12], [(0, (0, 0, 0, 13), (0, 1, 1, 0))])], [(98, 8), (98, 9), (98, 10), (98, 11), (98, 12), (98, 13), (99, 0), (100, 0), (101, 0), (102, 0), (104, 4), (104, 5), (105, 0), (106, 0), (107, 0), (108, 0), (109, 7), (109, 8), (109, 9), (110, 0), (111, 0), (112, 0), (113, 0), (114, 0), (115, 0), (116, 0)]))
def gc_H154 : List tk_Hd := []
theorem gc_154 (hU : gc_U tw) (hxt : tk_xtok xt) : tk_KS l D gk_cl gk_tbl gk_xw xt gk_MN gk_P gc_TY ro (gc_X tw) ads tw 2 gc_K154 := tk_contract (hk := tk_hk0) tk_hk0_ok (gc_xs hU) hxt gk_rok [] 9000 0 0 (Ks := [gc_K152, gc_K153]) (d := 1) (List.forall_mem_cons.mpr ⟨tk_KS_up (by decide) (gc_152 hU hxt), (List.forall_mem_cons.mpr ⟨tk_KS_up (by decide) (gc_153 hU hxt), (fun _ h => absurd h List.not_mem_nil)⟩)⟩) (Hs := gc_H154) (by decide +kernel) rfl
/-- Crew.aim -/
def gc_K155 : tk_K := (8, [(2, 0, 0, 0), (0, 1, 1, 0), (2, 1, 0, 0), (0, 2, 1, 0)], ([(0, 7), (1, 12)], []), [109, 207], [(0, (0, 0, 0, 9), (0, 0, 0, 0))], ([(none, ([(0, 7), (1, 12)], []), [109, 207], [])], [(109, 9), (114, 0), (115, 0), (116, 0)]))
def gc_H155 : List tk_Hd := []
theorem gc_155 (hU : gc_U tw) (hxt : tk_xtok xt) : tk_KS l D gk_cl gk_tbl gk_xw xt gk_MN gk_P gc_TY ro (gc_X tw) ads tw 1 gc_K155 := tk_contract (hk := tk_hk0) tk_hk0_ok (gc_xs hU) hxt gk_rok [] 9000 0 0 (Ks := []) (d := 0) (fun _ h => absurd h List.not_mem_nil) (Hs := gc_H155) (by decide +kernel) rfl
end GC4
