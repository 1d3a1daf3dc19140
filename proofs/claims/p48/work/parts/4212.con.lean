section GC12
variable {l : Launch} {D : va_G} {xt : tk_XT} {ro : Nat → Nat → Int → Prop} {ads tw : List Nat}
/-- GooseIce.cutSet -/
def gc_K139 : tk_K := (164, [(2, 0, 0, 0), (0, 1, 1, 0), (0, 2, 1, 0)], ([((-2147483648), 2147483647), ((-2147483648), 2147483647)], []), [0], [], ([(some (0, 3, 1, 0), ([((-2147483648), 2147483647), ((-2147483648), 2147483647), ((-1), 1023), (0, 6)], []), [0], [(0, (0, 0, 0, 0), (0, 4, 1, 0))])], [(0, 0)]))
def gc_H139 : List tk_Hd := []
theorem gc_139 (hU : gc_U tw) (hxt : tk_xtok xt) : tk_KS l D gk_cl gk_tbl gk_xw xt gk_MN gk_P gc_TY ro (gc_X tw) ads tw 8 gc_K139 := tk_contract (hk := tk_hk0) tk_hk0_ok (gc_xs hU) hxt gk_rok [3, 34, 186, 187, 196] 9000 2 0 (Ks := [gc_K137]) (d := 5) (List.forall_mem_cons.mpr ⟨tk_KS_up (by decide) (gc_137 hU hxt), (fun _ h => absurd h List.not_mem_nil)⟩) (Hs := gc_H139) (by decide +kernel) rfl
/-- Lake.leastOnRoute -/
def gc_K140 : tk_K := (60, [(2, 0, 0, 0), (0, 1, 1, 0)], ([(0, 7)], []), [12], [], ([(some (0, 2, 1, 0), ([(0, 7), ((-1), 1000000)], []), [12], [])], []))
def gc_H140 : List tk_Hd := [(5, [(0, (2, 0, 0, 0)), (1, (0, 1, 1, 0)), (2, (0, 2, 1, 0)), (3, (0, 3, 1, 0))], ([(0, 7), ((-2147483648), 1000000), (0, 2147483647)], []), [12], [], [(0, 0, (0, 0, 0, 0)), (1, 2147483647, (0, 3, 1, 0)), (0, 0, (0, 0, 0, 0))])]
theorem gc_140 (hU : gc_U tw) (hxt : tk_xtok xt) : tk_KS l D gk_cl gk_tbl gk_xw xt gk_MN gk_P gc_TY ro (gc_X tw) ads tw 5 gc_K140 := tk_contract (hk := tk_hk0) tk_hk0_ok (gc_xs hU) hxt gk_rok [11, 34, 36] 9000 2 3 (Ks := [gc_K67, gc_K76]) (d := 2) (List.forall_mem_cons.mpr ⟨tk_KS_up (by decide) (gc_67 hU hxt), (List.forall_mem_cons.mpr ⟨tk_KS_up (by decide) (gc_76 hU hxt), (fun _ h => absurd h List.not_mem_nil)⟩)⟩) (Hs := gc_H140) (by decide +kernel) rfl
/-- GooseIce.heaviest -/
def gc_K141 : tk_K := (165, [(2, 0, 0, 0), (0, 1, 1, 0)], ([((-2147483648), 2147483647)], []), [0], [], ([(some (0, 2, 1, 0), ([((-2147483648), 2147483647), ((-1), 1000000), (0, 6)], []), [0], [(0, (0, 0, 0, 0), (0, 3, 1, 0))])], [(0, 0)]))
def gc_H141 : List tk_Hd := []
theorem gc_141 (hU : gc_U tw) (hxt : tk_xtok xt) : tk_KS l D gk_cl gk_tbl gk_xw xt gk_MN gk_P gc_TY ro (gc_X tw) ads tw 7 gc_K141 := tk_contract (hk := tk_hk0) tk_hk0_ok (gc_xs hU) hxt gk_rok [3, 186, 187] 9000 1 0 (Ks := [gc_K140]) (d := 5) (List.forall_mem_cons.mpr ⟨tk_KS_up (by decide) (gc_140 hU hxt), (fun _ h => absurd h List.not_mem_nil)⟩) (Hs := gc_H141) (by decide +kernel) rfl
/-- Lake.frailest -/
def gc_K142 : tk_K := (61, [(2, 0, 0, 0)], ([], []), [12], [], ([(some (0, 1, 1, 0), ([((-1), 9)], []), [12], [])], []))
def gc_H142 : List tk_Hd := [(4, [(0, (2, 0, 0, 0)), (1, (0, 1, 1, 0)), (2, (0, 2, 1, 0))], ([((-1), 9), (0, 10)], []), [12], [], [(0, 0, (0, 0, 0, 0)), (1, 10, (0, 2, 1, 0)), (0, 0, (0, 0, 0, 0))])]
theorem gc_142 (hU : gc_U tw) (hxt : tk_xtok xt) : tk_KS l D gk_cl gk_tbl gk_xw xt gk_MN gk_P gc_TY ro (gc_X tw) ads tw 3 gc_K142 := tk_contract (hk := tk_hk0) tk_hk0_ok (gc_xs hU) hxt gk_rok [34, 36, 40] 9000 2 3 (Ks := []) (d := 0) (fun _ h => absurd h List.not_mem_nil) (Hs := gc_H142) (by decide +kernel) rfl
/-- GooseIce.weakest -/
def gc_K143 : tk_K := (166, [(2, 0, 0, 0)], ([], []), [0], [], ([(some (0, 1, 1, 0), ([((-1), 9), (0, 6)], []), [0], [(0, (0, 0, 0, 0), (0, 2, 1, 0))])], [(0, 0)]))
def gc_H143 : List tk_Hd := []
theorem gc_143 (hU : gc_U tw) (hxt : tk_xtok xt) : tk_KS l D gk_cl gk_tbl gk_xw xt gk_MN gk_P gc_TY ro (gc_X tw) ads tw 5 gc_K143 := tk_contract (hk := tk_hk0) tk_hk0_ok (gc_xs hU) hxt gk_rok [186, 187] 9000 1 0 (Ks := [gc_K142]) (d := 3) (List.forall_mem_cons.mpr ⟨tk_KS_up (by decide) (gc_142 hU hxt), (fun _ h => absurd h List.not_mem_nil)⟩) (Hs := gc_H143) (by decide +kernel) rfl
/-- Lake.notCarried -/
def gc_K144 : tk_K := (44, [(2, 0, 0, 0), (0, 1, 1, 0)], ([(0, 9), (1, 10)], []), [12], [(0, (0, 0, 0, 8), (0, 2, 1, 0))], ([(some (0, 3, 1, 0), ([(0, 9), (1, 10), (0, 2147483647)], []), [12], [])], []))
def gc_H144 : List tk_Hd := [(35, [(0, (2, 0, 0, 0)), (1, (0, 1, 1, 0)), (2, (0, 3, 1, 0)), (3, (0, 4, 1, 0)), (4, (0, 5, 1, 0))], ([(0, 9), (1, 10), (0, 2147483647), (0, 1), (0, 2147483647)], []), [12], [(0, (0, 0, 0, 8), (0, 2, 1, 0))], [(0, 0, (0, 0, 0, 0)), (1, 2147483647, (0, 5, 1, 0)), (0, 0, (0, 0, 0, 0))])]
theorem gc_144 (hU : gc_U tw) (hxt : tk_xtok xt) : tk_KS l D gk_cl gk_tbl gk_xw xt gk_MN gk_P gc_TY ro (gc_X tw) ads tw 5 gc_K144 := tk_contract (hk := tk_hk0) tk_hk0_ok (gc_xs hU) hxt gk_rok [34, 35] 9000 2 3 (Ks := [gc_K76]) (d := 2) (List.forall_mem_cons.mpr ⟨tk_KS_up (by decide) (gc_76 hU hxt), (fun _ h => absurd h List.not_mem_nil)⟩) (Hs := gc_H144) (by decide +kernel) rfl
/-- GooseIce.tooHeavy -/
def gc_K145 : tk_K := (167, [(2, 0, 0, 0), (0, 1, 1, 0)], ([((-2147483648), 2147483647)], []), [0], [], ([(some (0, 2, 1, 0), ([((-2147483648), 2147483647), ((-1), 2147483647), (0, 1)], []), [0], [(0, (0, 0, 0, 0), (0, 3, 1, 0))])], [(0, 0)]))
def gc_H145 : List tk_Hd := []
theorem gc_145 (hU : gc_U tw) (hxt : tk_xtok xt) : tk_KS l D gk_cl gk_tbl gk_xw xt gk_MN gk_P gc_TY ro (gc_X tw) ads tw 7 gc_K145 := tk_contract (hk := tk_hk0) tk_hk0_ok (gc_xs hU) hxt gk_rok [34, 186, 187] 9000 1 0 (Ks := [gc_K144]) (d := 5) (List.forall_mem_cons.mpr ⟨tk_KS_up (by decide) (gc_144 hU hxt), (fun _ h => absurd h List.not_mem_nil)⟩) (Hs := gc_H145) (by decide +kernel) rfl
/-- Lake.stepsTillStrong -/
def gc_K146 : tk_K := (62, [(2, 0, 0, 0), (0, 1, 1, 0), (0, 2, 1, 0)], ([(0, 9), (0, 999), (1, 10)], []), [12], [(0, (0, 0, 0, 8), (0, 3, 1, 0))], ([(some (0, 4, 1, 0), ([(0, 9), (0, 999), (1, 10), ((-1), 20)], []), [12], [])], []))
def gc_H146 : List tk_Hd := [(40, [(0, (2, 0, 0, 0)), (1, (0, 1, 1, 0)), (2, (0, 2, 1, 0)), (3, (0, 4, 1, 0)), (4, (0, 5, 1, 0)), (5, (0, 6, 1, 0))], ([(0, 9), (0, 999), (1, 10), ((-2147483648), 2147483647), ((-2147483648), 2147483647), (0, 2147483647)], []), [12], [(0, (0, 0, 0, 8), (0, 3, 1, 0))], [(0, 0, (0, 0, 0, 0)), (1, 2147483647, (0, 6, 1, 0)), (0, 0, (0, 0, 0, 0))])]
theorem gc_146 (hU : gc_U tw) (hxt : tk_xtok xt) : tk_KS l D gk_cl gk_tbl gk_xw xt gk_MN gk_P gc_TY ro (gc_X tw) ads tw 1 gc_K146 := tk_contract (hk := tk_hk0) tk_hk0_ok (gc_xs hU) hxt gk_rok [] 9000 0 3 (Ks := []) (d := 0) (fun _ h => absurd h List.not_mem_nil) (Hs := gc_H146) (by decide +kernel) rfl
/-- GooseIce.ready -/
def gc_K147 : tk_K := (168, [(2, 0, 0, 0), (0, 1, 1, 0), (0, 2, 1, 0)], ([((-2147483648), 2147483647), ((-2147483648), 2147483647)], []), [0], [], ([(some (0, 3, 1, 0), ([((-2147483648), 2147483647), ((-2147483648), 2147483647), ((-1), 20), (0, 6)], []), [0], [(0, (0, 0, 0, 0), (0, 4, 1, 0))])], [(0, 0)]))
def gc_H147 : List tk_Hd := []
theorem gc_147 (hU : gc_U tw) (hxt : tk_xtok xt) : tk_KS l D gk_cl gk_tbl gk_xw xt gk_MN gk_P gc_TY ro (gc_X tw) ads tw 4 gc_K147 := tk_contract (hk := tk_hk0) tk_hk0_ok (gc_xs hU) hxt gk_rok [34, 36, 186, 187] 9000 2 0 (Ks := [gc_K146]) (d := 1) (List.forall_mem_cons.mpr ⟨tk_KS_up (by decide) (gc_146 hU hxt), (fun _ h => absurd h List.not_mem_nil)⟩) (Hs := gc_H147) (by decide +kernel) rfl
/-- Lake.sharedShore -/
def gc_K148 : tk_K := (48, [(2, 0, 0, 0), (0, 1, 1, 0)], ([(1, 255)], []), [12], [], ([(some (0, 2, 1, 0), ([(1, 255), ((-1), 9)], []), [12], [])], []))
def gc_H148 : List tk_Hd := []
theorem gc_148 (hU : gc_U tw) (hxt : tk_xtok xt) : tk_KS l D gk_cl gk_tbl gk_xw xt gk_MN gk_P gc_TY ro (gc_X tw) ads tw 4 gc_K148 := tk_contract (hk := tk_hk0) tk_hk0_ok (gc_xs hU) hxt gk_rok [34, 35, 200] 9000 2 0 (Ks := [gc_K80]) (d := 1) (List.forall_mem_cons.mpr ⟨tk_KS_up (by decide) (gc_80 hU hxt), (fun _ h => absurd h List.not_mem_nil)⟩) (Hs := gc_H148) (by decide +kernel) rfl
/-- Queue.meetsBroken -/
def gc_K149 : tk_K := (93, [(2, 0, 0, 0), (2, 1, 0, 0), (0, 1, 1, 0)], ([(1, 12)], []), [12, 5], [], ([(some (0, 0, 0, 0), ([(1, 12)], []), [12, 5], []), (some (0, 0, 0, 1), ([(1, 12)], []), [12, 5], [])], []))
def gc_H149 : List tk_Hd := [(2, [(0, (2, 0, 0, 0)), (1, (2, 1, 0, 0)), (2, (0, 1, 1, 0)), (3, (0, 2, 1, 0))], ([(1, 12), (0, 12)], []), [12, 5], [], [(0, 0, (0, 0, 0, 0)), (1, 12, (0, 2, 1, 0)), (0, 0, (0, 0, 0, 0))])]
theorem gc_149 (hU : gc_U tw) (hxt : tk_xtok xt) : tk_KS l D gk_cl gk_tbl gk_xw xt gk_MN gk_P gc_TY ro (gc_X tw) ads tw 1 gc_K149 := tk_contract (hk := tk_hk0) tk_hk0_ok (gc_xs hU) hxt gk_rok [] 9000 0 3 (Ks := []) (d := 0) (fun _ h => absurd h List.not_mem_nil) (Hs := gc_H149) (by decide +kernel) rfl
/-- Queue.gather -/
def gc_K150 : tk_K := (94, [(2, 0, 0, 0), (0, 1, 1, 0)], ([(1, 255), (1, 12)], []), [96], [(0, (0, 0, 0, 10), (0, 2, 1, 0)), (0, (0, 0, 0, 8), (0, 0, 0, 1000000))], ([(none, ([(1, 255), (1, 12)], []), [96], [])], [(96, 9), (202, 0)]))
def gc_H150 : List tk_Hd := [(7, [(0, (2, 0, 0, 0)), (1, (0, 1, 1, 0)), (2, (0, 3, 1, 0))], ([(1, 255), (1, 12), (0, 8), (0, 4)], []), [96], [(0, (0, 0, 0, 10), (0, 2, 1, 0)), (0, (0, 0, 0, 8), (0, 0, 0, 1000000)), (0, (0, 0, 0, 9), (0, 4, 1, 0))], [(0, 0, (0, 0, 0, 0)), (1, 8, (0, 3, 1, 0)), (0, 0, (0, 0, 0, 0))])]
theorem gc_150 (hU : gc_U tw) (hxt : tk_xtok xt) : tk_KS l D gk_cl gk_tbl gk_xw xt gk_MN gk_P gc_TY ro (gc_X tw) ads tw 1 gc_K150 := tk_contract (hk := tk_hk0) tk_hk0_ok (gc_xs hU) hxt gk_rok [] 9000 0 3 (Ks := []) (d := 0) (fun _ h => absurd h List.not_mem_nil) (Hs := gc_H150) (by decide +kernel) rfl
/-- Queue.arrange -/
def gc_K151 : tk_K := (95, [(2, 0, 0, 0), (0, 1, 1, 0)], ([(0, 255), (1, 12), (1, 4)], []), [96], [(0, (0, 0, 0, 10), (0, 2, 1, 0)), (0, (0, 0, 0, 9), (0, 3, 1, 0))], ([(some (0, 0, 0, 0), ([(0, 255), (1, 12), (1, 4)], []), [96], []), (some (0, 0, 0, 1), ([(0, 255), (1, 12), (1, 4)], []), [96], [])], [(203, 0)]))
def gc_H151 : List tk_Hd := [(4, [(0, (2, 0, 0, 0)), (1, (0, 1, 1, 0)), (2, (0, 4, 1, 0)), (3, (0, 5, 1, 0))], ([(0, 255), (1, 12), (1, 4), (0, 2147483647), (0, 2147483647)], []), [96], [(0, (0, 0, 0, 10), (0, 2, 1, 0)), (0, (0, 0, 0, 9), (0, 3, 1, 0))], [(0, 0, (0, 0, 0, 0)), (1, 2147483647, (0, 5, 1, 0)), (0, 0, (0, 0, 0, 0))])]
theorem gc_151 (hU : gc_U tw) (hxt : tk_xtok xt) : tk_KS l D gk_cl gk_tbl gk_xw xt gk_MN gk_P gc_TY ro (gc_X tw) ads tw 1 gc_K151 := tk_contract (hk := tk_hk0) tk_hk0_ok (gc_xs hU) hxt gk_rok [] 9000 0 3 (Ks := []) (d := 0) (fun _ h => absurd h List.not_mem_nil) (Hs := gc_H151) (by decide +kernel) rfl
/-- Ice.copyFrom -/
def gc_K152 : tk_K := (25, [(2, 0, 0, 0), (2, 1, 0, 0)], ([], []), [104, 18], [], ([(none, ([], []), [104, 18], [])], [(104, 4), (104, 5), (105, 0), (106, 0), (107, 0), (108, 0)]))
def gc_H152 : List tk_Hd := []
theorem gc_152 (hU : gc_U tw) (hxt : tk_xtok xt) : tk_KS l D gk_cl gk_tbl gk_xw xt gk_MN gk_P gc_TY ro (gc_X tw) ads tw 1 gc_K152 := tk_contract (hk := tk_hk0) tk_hk0_ok (gc_xs hU) hxt gk_rok [] 9000 0 0 (Ks := []) (d := 0) (fun _ h => absurd h List.not_mem_nil) (Hs := gc_H152) (by decide +kernel) rfl
/-- Crew.copyFrom -/
def gc_K153 : tk_K := (2, [(2, 0, 0, 0), (2, 1, 0, 0)], ([], []), [109, 23], [], ([(none, ([], []), [109, 23], [])], [(109, 7), (109, 8), (109, 9), (110, 0), (111, 0), (112, 0), (113, 0), (114, 0), (115, 0), (116, 0)]))
def gc_H153 : List tk_Hd := []
theorem gc_153 (hU : gc_U tw) (hxt : tk_xtok xt) : tk_KS l D gk_cl gk_tbl gk_xw xt gk_MN gk_P gc_TY ro (gc_X tw) ads tw 1 gc_K153 := tk_contract (hk := tk_hk0) tk_hk0_ok (gc_xs hU) hxt gk_rok [] 9000 0 0 (Ks := []) (d := 0) (fun _ h => absurd h List.not_mem_nil) (Hs := gc_H153) (by decide +kernel) rfl
/-- Lake.copyFrom -/
def gc_K154 : tk_K := (31, [(2, 0, 0, 0), (2, 1, 0, 0)], ([], []), [98, 12], [], ([(none, ([(0, 9999)], []), [98, 12], [(0, (0, 0, 0, 13), (0, 1, 1, 0))])], [(98, 8), (98, 9), (98, 10), (98, 11), (98, 12), (98, 13), (99, 0), (100, 0), (101, 0), (102, 0), (104, 4), (104, 5), (105, 0), (106, 0), (107, 0), (108, 0), (109, 7), (109, 8), (109, 9), (110, 0), (111, 0), (112, 0), (113, 0), (114, 0), (115, 0), (116, 0)]))
def gc_H154 : List tk_Hd := []
theorem gc_154 (hU : gc_U tw) (hxt : tk_xtok xt) : tk_KS l D gk_cl gk_tbl gk_xw xt gk_MN gk_P gc_TY ro (gc_X tw) ads tw 2 gc_K154 := tk_contract (hk := tk_hk0) tk_hk0_ok (gc_xs hU) hxt gk_rok [] 9000 0 0 (Ks := [gc_K152, gc_K153]) (d := 1) (List.forall_mem_cons.mpr ⟨tk_KS_up (by decide) (gc_152 hU hxt), (List.forall_mem_cons.mpr ⟨tk_KS_up (by decide) (gc_153 hU hxt), (fun _ h => absurd h List.not_mem_nil)⟩)⟩) (Hs := gc_H154) (by decide +kernel) rfl
/-- Crew.aim -/
def gc_K155 : tk_K := (8, [(2, 0, 0, 0), (0, 1, 1, 0), (2, 1, 0, 0), (0, 2, 1, 0)], ([(0, 7), (1, 12)], []), [109, 207], [(0, (0, 0, 0, 9), (0, 0, 0, 0))], ([(none, ([(0, 7), (1, 12)], []), [109, 207], [])], [(109, 9), (114, 0), (115, 0), (116, 0)]))
def gc_H155 : List tk_Hd := []
theorem gc_155 (hU : gc_U tw) (hxt : tk_xtok xt) : tk_KS l D gk_cl gk_tbl gk_xw xt gk_MN gk_P gc_TY ro (gc_X tw) ads tw 1 gc_K155 := tk_contract (hk := tk_hk0) tk_hk0_ok (gc_xs hU) hxt gk_rok [] 9000 0 0 (Ks := []) (d := 0) (fun _ h => absurd h List.not_mem_nil) (Hs := gc_H155) (by decide +kernel) rfl
/-- Ice.heal -/
def gc_K156 : tk_K := (27, [(2, 0, 0, 0), (0, 1, 1, 0), (0, 2, 1, 0)], ([(0, 19), (0, 20)], []), [104], [], ([(none, ([(0, 19), (0, 20)], []), [104], [])], [(104, 4), (105, 0), (107, 0), (108, 0)]))
def gc_H156 : List tk_Hd := [(10, [(0, (2, 0, 0, 0)), (1, (0, 1, 1, 0)), (2, (0, 2, 1, 0)), (3, (0, 3, 1, 0))], ([(0, 19), (0, 20), (0, 10)], []), [104], [], [(0, 0, (0, 0, 0, 0)), (1, 10, (0, 3, 1, 0)), (0, 0, (0, 0, 0, 0))])]
theorem gc_156 (hU : gc_U tw) (hxt : tk_xtok xt) : tk_KS l D gk_cl gk_tbl gk_xw xt gk_MN gk_P gc_TY ro (gc_X tw) ads tw 1 gc_K156 := tk_contract (hk := tk_hk0) tk_hk0_ok (gc_xs hU) hxt gk_rok [] 9000 0 3 (Ks := []) (d := 0) (fun _ h => absurd h List.not_mem_nil) (Hs := gc_H156) (by decide +kernel) rfl
/-- Lake.load -/
def gc_K157 : tk_K := (41, [(2, 0, 0, 0), (0, 1, 1, 0), (0, 0, 0, 0)], ([(0, 9), (1, 10011), (1, 10)], []), [98], [(0, (0, 0, 0, 13), (0, 2, 1, 0)), (0, (0, 0, 0, 8), (0, 3, 1, 0))], ([(some (0, 4, 1, 0), ([(0, 9), (1, 10011), (1, 10), ((-2147483648), 2147483647)], []), [98], [])], []))
def gc_H157 : List tk_Hd := [(18, [(0, (2, 0, 0, 0)), (1, (0, 1, 1, 0)), (2, (0, 0, 0, 0)), (3, (0, 4, 1, 0)), (4, (0, 5, 1, 0)), (5, (0, 6, 1, 0))], ([(0, 9), (1, 10011), (1, 10), (0, 255), (0, 1023), (0, 2147483647)], []), [98], [(0, (0, 0, 0, 13), (0, 2, 1, 0)), (0, (0, 0, 0, 8), (0, 3, 1, 0))], [(0, 1, (0, 0, 0, 0)), (1, 2147483647, (0, 6, 1, 0)), (0, 0, (0, 0, 0, 0))]), (83, [(0, (2, 0, 0, 0)), (1, (0, 1, 1, 0)), (2, (0, 0, 0, 0)), (3, (0, 4, 1, 0)), (4, (0, 5, 1, 0)), (5, (0, 6, 1, 0)), (6, (0, 7, 1, 0))], ([(0, 9), (1, 10011), (1, 10), (0, 255), (0, 1023), ((-2147483648), 2147483647), (0, 2147483647)], []), [98], [(0, (0, 0, 0, 13), (0, 2, 1, 0)), (0, (0, 0, 0, 8), (0, 3, 1, 0))], [(0, 0, (0, 0, 0, 0)), (1, 2147483647, (0, 7, 1, 0)), (0, 0, (0, 0, 0, 0))])]
theorem gc_157 (hU : gc_U tw) (hxt : tk_xtok xt) : tk_KS l D gk_cl gk_tbl gk_xw xt gk_MN gk_P gc_TY ro (gc_X tw) ads tw 1 gc_K157 := tk_contract (hk := tk_hk0) tk_hk0_ok (gc_xs hU) hxt gk_rok [] 9000 0 3 (Ks := []) (d := 0) (fun _ h => absurd h List.not_mem_nil) (Hs := gc_H157) (by decide +kernel) rfl
end GC12
