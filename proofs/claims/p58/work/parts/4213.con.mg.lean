section MH33_0
section GC13
variable {l : Launch} {D : va_G} {xt : tk_XT} {ro : Nat → Nat → Int → Prop} {ads tw : List Nat}
/-- Lake.weighAll -/
def gc_K158 : tk_K := (52, [(2, 0, 0, 0)], ([(1, 10011)], []), [98], [(0, (0, 0, 0, 13), (0, 1, 1, 0))], ([(none, ([(1, 10011)], []), [98], [])], [(103, 0)]))
def gc_H158 : List tk_Hd := [(2, [(0, (2, 0, 0, 0)), (1, (0, 2, 1, 0))], ([(1, 10011), (0, 2147483647)], []), [98], [(0, (0, 0, 0, 13), (0, 1, 1, 0))], [(0, 0, (0, 0, 0, 0)), (1, 2147483647, (0, 2, 1, 0)), (0, 0, (0, 0, 0, 0))])]
theorem gc_158 (hU : gc_U tw) (hxt : tk_xtok xt) : tk_KS l D gk_cl gk_tbl gk_xw xt gk_MN gk_P gc_TY ro (gc_X tw) ads tw 2 gc_K158 := tk_contract (hk := tk_hk0) tk_hk0_ok (gc_xs hU) hxt gk_rok [] 9000 0 3 (Ks := [gc_K157]) (d := 1) (List.forall_mem_cons.mpr ⟨tk_KS_up (by decide) (gc_157 hU hxt), (fun _ h => absurd h List.not_mem_nil)⟩) (Hs := gc_H158) (by decide +kernel) rfl
/-- Lake.overloaded -/
def gc_K159 : tk_K := (53, [(2, 0, 0, 0)], ([(1, 10011)], []), [98], [(0, (0, 0, 0, 13), (0, 1, 1, 0))], ([(some (0, 2, 1, 0), ([(1, 10011), (0, 2147483647)], []), [98], [])], []))
def gc_H159 : List tk_Hd := [(9, [(0, (2, 0, 0, 0)), (1, (0, 2, 1, 0)), (2, (0, 3, 1, 0)), (3, (0, 4, 1, 0))], ([(1, 10011), (0, 2147483647), ((-2147483648), 2147483647), (0, 2147483647)], []), [98], [(0, (0, 0, 0, 13), (0, 1, 1, 0))], [(0, 0, (0, 0, 0, 0)), (1, 2147483647, (0, 4, 1, 0)), (0, 0, (0, 0, 0, 0))])]
theorem gc_159 (hU : gc_U tw) (hxt : tk_xtok xt) : tk_KS l D gk_cl gk_tbl gk_xw xt gk_MN gk_P gc_TY ro (gc_X tw) ads tw 2 gc_K159 := tk_contract (hk := tk_hk0) tk_hk0_ok (gc_xs hU) hxt gk_rok [39, 40] 9000 1 3 (Ks := []) (d := 0) (fun _ h => absurd h List.not_mem_nil) (Hs := gc_H159) (by decide +kernel) rfl
/-- Lake.noteLoads -/
def gc_K160 : tk_K := (55, [(2, 0, 0, 0)], ([(1, 10011)], []), [98], [(0, (0, 0, 0, 13), (0, 1, 1, 0))], ([(none, ([(1, 10011)], []), [98], [])], [(106, 0)]))
def gc_H160 : List tk_Hd := [(7, [(0, (2, 0, 0, 0)), (1, (0, 2, 1, 0)), (2, (0, 3, 1, 0))], ([(1, 10011), ((-2147483648), 2147483647), (0, 2147483647)], []), [98], [(0, (0, 0, 0, 13), (0, 1, 1, 0))], [(0, 0, (0, 0, 0, 0)), (1, 2147483647, (0, 3, 1, 0)), (0, 0, (0, 0, 0, 0))])]
theorem gc_160 (hU : gc_U tw) (hxt : tk_xtok xt) : tk_KS l D gk_cl gk_tbl gk_xw xt gk_MN gk_P gc_TY ro (gc_X tw) ads tw 2 gc_K160 := tk_contract (hk := tk_hk0) tk_hk0_ok (gc_xs hU) hxt gk_rok [39] 9000 1 3 (Ks := []) (d := 0) (fun _ h => absurd h List.not_mem_nil) (Hs := gc_H160) (by decide +kernel) rfl
/-- Ice.shatter -/
def gc_K161 : tk_K := (28, [(2, 0, 0, 0), (0, 1, 1, 0)], ([(0, 9)], []), [104], [], ([(none, ([(0, 9)], []), [104], [])], [(104, 4), (104, 5), (105, 0), (107, 0), (108, 0)]))
def gc_H161 : List tk_Hd := [(43, [(0, (2, 0, 0, 0)), (1, (0, 1, 1, 0)), (2, (0, 2, 1, 0))], ([(0, 9), (0, 2147483647)], []), [104], [], [(0, 0, (0, 0, 0, 0)), (1, 2147483647, (0, 2, 1, 0)), (0, 0, (0, 0, 0, 0))])]
theorem gc_161 (hU : gc_U tw) (hxt : tk_xtok xt) : tk_KS l D gk_cl gk_tbl gk_xw xt gk_MN gk_P gc_TY ro (gc_X tw) ads tw 1 gc_K161 := tk_contract (hk := tk_hk0) tk_hk0_ok (gc_xs hU) hxt gk_rok [] 9000 0 3 (Ks := []) (d := 0) (fun _ h => absurd h List.not_mem_nil) (Hs := gc_H161) (by decide +kernel) rfl
/-- Lake.crack -/
def gc_K162 : tk_K := (54, [(2, 0, 0, 0), (0, 1, 1, 0)], ([(1, 2147483647), (1, 10011)], []), [98], [(0, (0, 0, 0, 13), (0, 2, 1, 0))], ([(none, ([(1, 2147483647), (1, 10011)], []), [98], [])], [(104, 4), (104, 5), (105, 0), (107, 0), (108, 0), (109, 8), (109, 9)]))
def gc_H162 : List tk_Hd := [(2, [(0, (2, 0, 0, 0)), (1, (0, 1, 1, 0)), (2, (0, 3, 1, 0))], ([(1, 2147483647), (1, 10011), (0, 2147483647)], []), [98], [(0, (0, 0, 0, 13), (0, 2, 1, 0))], [(0, 0, (0, 0, 0, 0)), (1, 2147483647, (0, 3, 1, 0)), (0, 0, (0, 0, 0, 0))])]
theorem gc_162 (hU : gc_U tw) (hxt : tk_xtok xt) : tk_KS l D gk_cl gk_tbl gk_xw xt gk_MN gk_P gc_TY ro (gc_X tw) ads tw 3 gc_K162 := tk_contract (hk := tk_hk0) tk_hk0_ok (gc_xs hU) hxt gk_rok [12] 9000 1 3 (Ks := [gc_K161]) (d := 1) (List.forall_mem_cons.mpr ⟨tk_KS_up (by decide) (gc_161 hU hxt), (fun _ h => absurd h List.not_mem_nil)⟩) (Hs := gc_H162) (by decide +kernel) rfl
/-- Crew.ahead -/
def gc_K163 : tk_K := (9, [(2, 0, 0, 0), (0, 1, 1, 0), (0, 0, 0, 0)], ([(0, 7)], []), [109], [], ([(some (0, 2, 1, 0), ([(0, 7), ((-1), 9)], []), [109], [])], []))
def gc_H163 : List tk_Hd := []
theorem gc_163 (hU : gc_U tw) (hxt : tk_xtok xt) : tk_KS l D gk_cl gk_tbl gk_xw xt gk_MN gk_P gc_TY ro (gc_X tw) ads tw 1 gc_K163 := tk_contract (hk := tk_hk0) tk_hk0_ok (gc_xs hU) hxt gk_rok [] 9000 0 0 (Ks := []) (d := 0) (fun _ h => absurd h List.not_mem_nil) (Hs := gc_H163) (by decide +kernel) rfl
/-- Crew.advance -/
def gc_K164 : tk_K := (10, [(2, 0, 0, 0), (0, 1, 1, 0), (0, 2, 1, 0)], ([(0, 7), (0, 9)], []), [109], [], ([(none, ([(0, 7), (0, 9)], []), [109], [])], [(109, 9), (112, 0), (113, 0), (114, 0), (115, 0)]))
def gc_H164 : List tk_Hd := []
theorem gc_164 (hU : gc_U tw) (hxt : tk_xtok xt) : tk_KS l D gk_cl gk_tbl gk_xw xt gk_MN gk_P gc_TY ro (gc_X tw) ads tw 1 gc_K164 := tk_contract (hk := tk_hk0) tk_hk0_ok (gc_xs hU) hxt gk_rok [] 9000 0 0 (Ks := []) (d := 0) (fun _ h => absurd h List.not_mem_nil) (Hs := gc_H164) (by decide +kernel) rfl
/-- Ice.enter -/
def gc_K165 : tk_K := (26, [(2, 0, 0, 0), (0, 1, 1, 0), (0, 2, 1, 0)], ([(0, 9), (0, 19)], []), [104], [], ([(none, ([(0, 9), (0, 19)], []), [104], [])], [(104, 4), (107, 0), (108, 0)]))
def gc_H165 : List tk_Hd := []
theorem gc_165 (hU : gc_U tw) (hxt : tk_xtok xt) : tk_KS l D gk_cl gk_tbl gk_xw xt gk_MN gk_P gc_TY ro (gc_X tw) ads tw 1 gc_K165 := tk_contract (hk := tk_hk0) tk_hk0_ok (gc_xs hU) hxt gk_rok [] 9000 0 0 (Ks := []) (d := 0) (fun _ h => absurd h List.not_mem_nil) (Hs := gc_H165) (by decide +kernel) rfl
/-- Lake.moveOne -/
def gc_K166 : tk_K := (51, [(2, 0, 0, 0), (0, 1, 1, 0), (0, 2, 1, 0)], ([(0, 7), (0, 19), (1, 10011)], []), [98], [(0, (0, 0, 0, 13), (0, 3, 1, 0))], ([(none, ([(0, 7), (0, 19), (1, 10011)], []), [98], [])], [(102, 0), (104, 4), (107, 0), (108, 0), (109, 8), (109, 9), (112, 0), (113, 0), (114, 0), (115, 0)]))
def gc_H166 : List tk_Hd := []
theorem gc_166 (hU : gc_U tw) (hxt : tk_xtok xt) : tk_KS l D gk_cl gk_tbl gk_xw xt gk_MN gk_P gc_TY ro (gc_X tw) ads tw 3 gc_K166 := tk_contract (hk := tk_hk0) tk_hk0_ok (gc_xs hU) hxt gk_rok [12, 34] 9000 1 0 (Ks := [gc_K163, gc_K164, gc_K165]) (d := 1) (List.forall_mem_cons.mpr ⟨tk_KS_up (by decide) (gc_163 hU hxt), (List.forall_mem_cons.mpr ⟨tk_KS_up (by decide) (gc_164 hU hxt), (List.forall_mem_cons.mpr ⟨tk_KS_up (by decide) (gc_165 hU hxt), (fun _ h => absurd h List.not_mem_nil)⟩)⟩)⟩) (Hs := gc_H166) (by decide +kernel) rfl
/-- Lake.walkOnce -/
def gc_K167 : tk_K := (50, [(2, 0, 0, 0)], ([(0, 10010)], []), [98], [(0, (0, 0, 0, 13), (0, 1, 1, 0))], ([(some (0, 2, 1, 0), ([(0, 10010), (0, 2147483647)], []), [98], [(0, (0, 0, 0, 13), (0, 1, 1, 1))])], [(98, 13), (102, 0), (103, 0), (104, 4), (104, 5), (105, 0), (106, 0), (107, 0), (108, 0), (109, 8), (109, 9), (112, 0), (113, 0), (114, 0), (115, 0)]))
def gc_H167 : List tk_Hd := [(54, [(0, (2, 0, 0, 0)), (1, (0, 2, 1, 0)), (2, (0, 3, 1, 0))], ([(0, 10010), (0, 19), (0, 8)], []), [98], [(0, (0, 0, 0, 13), (0, 1, 1, 1))], [(0, 0, (0, 0, 0, 0)), (1, 8, (0, 3, 1, 0)), (0, 0, (0, 0, 0, 0))])]
theorem gc_167 (hU : gc_U tw) (hxt : tk_xtok xt) : tk_KS l D gk_cl gk_tbl gk_xw xt gk_MN gk_P gc_TY ro (gc_X tw) ads tw 4 gc_K167 := tk_contract (hk := tk_hk0) tk_hk0_ok (gc_xs hU) hxt gk_rok [] 9000 0 3 (Ks := [gc_K156, gc_K158, gc_K159, gc_K160, gc_K162, gc_K166]) (d := 3) (List.forall_mem_cons.mpr ⟨tk_KS_up (by decide) (gc_156 hU hxt), (List.forall_mem_cons.mpr ⟨tk_KS_up (by decide) (gc_158 hU hxt), (List.forall_mem_cons.mpr ⟨tk_KS_up (by decide) (gc_159 hU hxt), (List.forall_mem_cons.mpr ⟨tk_KS_up (by decide) (gc_160 hU hxt), (List.forall_mem_cons.mpr ⟨tk_KS_up (by decide) (gc_162 hU hxt), (List.forall_mem_cons.mpr ⟨tk_KS_up (by decide) (gc_166 hU hxt), (fun _ h => absurd h List.not_mem_nil)⟩)⟩)⟩)⟩)⟩)⟩) (Hs := gc_H167) (by decide +kernel) rfl
/-- Queue.finish -/
def gc_K168 : tk_K := (98, [(2, 0, 0, 0), (2, 1, 0, 0), (0, 1, 1, 0)], ([(1, 12), (1, 12), (2, 1000000), (1, 10000)], []), [96, 98], [(0, (0, 0, 0, 10), (0, 2, 1, 0)), (0, (0, 0, 0, 8), (0, 3, 1, 0)), (0, (0, 0, 0, 9), (0, 0, 0, 1)), (1, (0, 0, 0, 13), (0, 4, 1, 0))], ([(none, ([(1, 12), (1, 12), (2, 1000000), (1, 10000), (1, 1000000)], []), [96, 98], [(0, (0, 0, 0, 8), (0, 5, 1, 0))])], [(96, 7), (96, 8), (98, 13), (102, 0), (103, 0), (104, 4), (104, 5), (105, 0), (106, 0), (107, 0), (108, 0), (109, 8), (109, 9), (112, 0), (113, 0), (114, 0), (115, 0), (205, 0), (206, 0)]))
def gc_H168 : List tk_Hd := [(2, [(0, (2, 0, 0, 0)), (1, (2, 1, 0, 0)), (2, (0, 1, 1, 0)), (3, (0, 5, 1, 0))], ([(1, 12), (1, 12), (2, 1000000), (1, 10000), (1, 12), (1, 10011)], [(5, 4, 9999)]), [96, 98], [(0, (0, 0, 0, 10), (0, 2, 1, 0)), (0, (0, 0, 0, 8), (0, 3, 1, 0)), (0, (0, 0, 0, 9), (0, 0, 0, 1)), (1, (0, 0, 0, 13), (0, 6, 1, 0))], [(0, 0, (0, 0, 0, 0)), (1, 10011, (0, 6, 1, 0)), (0, 0, (0, 0, 0, 0))])]
theorem gc_168 (hU : gc_U tw) (hxt : tk_xtok xt) : tk_KS l D gk_cl gk_tbl gk_xw xt gk_MN gk_P gc_TY ro (gc_X tw) ads tw 5 gc_K168 := tk_contract (hk := (tk_hks [(10, [])])) (tk_hks_ok _) (gc_xs hU) hxt gk_rok [] 9000 0 3 (Ks := [gc_K167]) (d := 4) (List.forall_mem_cons.mpr ⟨tk_KS_up (by decide) (gc_167 hU hxt), (fun _ h => absurd h List.not_mem_nil)⟩) (Hs := gc_H168) (by decide +kernel) rfl
/-- Ice.copyFrom -/
def gc_K169 : tk_K := (25, [(2, 0, 0, 0), (2, 1, 0, 0)], ([], []), [130, 104], [], ([(none, ([], []), [130, 104], [])], [(130, 4), (130, 5), (131, 0), (132, 0), (133, 0), (134, 0)]))
def gc_H169 : List tk_Hd := []
theorem gc_169 (hU : gc_U tw) (hxt : tk_xtok xt) : tk_KS l D gk_cl gk_tbl gk_xw xt gk_MN gk_P gc_TY ro (gc_X tw) ads tw 1 gc_K169 := tk_contract (hk := tk_hk0) tk_hk0_ok (gc_xs hU) hxt gk_rok [] 9000 0 0 (Ks := []) (d := 0) (fun _ h => absurd h List.not_mem_nil) (Hs := gc_H169) (by decide +kernel) rfl
/-- Crew.copyFrom -/
def gc_K170 : tk_K := (2, [(2, 0, 0, 0), (2, 1, 0, 0)], ([], []), [135, 109], [], ([(none, ([], []), [135, 109], [])], [(135, 7), (135, 8), (135, 9), (136, 0), (137, 0), (138, 0), (139, 0), (140, 0), (141, 0), (142, 0)]))
def gc_H170 : List tk_Hd := []
theorem gc_170 (hU : gc_U tw) (hxt : tk_xtok xt) : tk_KS l D gk_cl gk_tbl gk_xw xt gk_MN gk_P gc_TY ro (gc_X tw) ads tw 1 gc_K170 := tk_contract (hk := tk_hk0) tk_hk0_ok (gc_xs hU) hxt gk_rok [] 9000 0 0 (Ks := []) (d := 0) (fun _ h => absurd h List.not_mem_nil) (Hs := gc_H170) (by decide +kernel) rfl
/-- Lake.copyFrom -/
def gc_K171 : tk_K := (31, [(2, 0, 0, 0), (2, 1, 0, 0)], ([(1, 10005)], []), [124, 98], [(1, (0, 0, 0, 13), (0, 1, 1, 0))], ([(none, ([(1, 10005)], []), [124, 98], [(0, (0, 0, 0, 13), (0, 1, 1, 0))])], [(124, 8), (124, 9), (124, 10), (124, 11), (124, 12), (124, 13), (125, 0), (126, 0), (127, 0), (128, 0), (130, 4), (130, 5), (131, 0), (132, 0), (133, 0), (134, 0), (135, 7), (135, 8), (135, 9), (136, 0), (137, 0), (138, 0), (139, 0), (140, 0), (141, 0), (142, 0)]))
def gc_H171 : List tk_Hd := []
theorem gc_171 (hU : gc_U tw) (hxt : tk_xtok xt) : tk_KS l D gk_cl gk_tbl gk_xw xt gk_MN gk_P gc_TY ro (gc_X tw) ads tw 2 gc_K171 := tk_contract (hk := tk_hk0) tk_hk0_ok (gc_xs hU) hxt gk_rok [] 9000 0 0 (Ks := [gc_K169, gc_K170]) (d := 1) (List.forall_mem_cons.mpr ⟨tk_KS_up (by decide) (gc_169 hU hxt), (List.forall_mem_cons.mpr ⟨tk_KS_up (by decide) (gc_170 hU hxt), (fun _ h => absurd h List.not_mem_nil)⟩)⟩) (Hs := gc_H171) (by decide +kernel) rfl
/-- Crew.aim -/
def gc_K172 : tk_K := (8, [(2, 0, 0, 0), (0, 1, 1, 0), (2, 1, 0, 0), (0, 2, 1, 0)], ([(0, 7), (1, 12)], []), [135, 207], [], ([(none, ([(0, 7), (1, 12)], []), [135, 207], [])], [(135, 9), (140, 0), (141, 0), (142, 0)]))
def gc_H172 : List tk_Hd := []
theorem gc_172 (hU : gc_U tw) (hxt : tk_xtok xt) : tk_KS l D gk_cl gk_tbl gk_xw xt gk_MN gk_P gc_TY ro (gc_X tw) ads tw 1 gc_K172 := tk_contract (hk := tk_hk0) tk_hk0_ok (gc_xs hU) hxt gk_rok [] 9000 0 0 (Ks := []) (d := 0) (fun _ h => absurd h List.not_mem_nil) (Hs := gc_H172) (by decide +kernel) rfl
/-- Ice.heal -/
def gc_K173 : tk_K := (27, [(2, 0, 0, 0), (0, 1, 1, 0), (0, 2, 1, 0)], ([(0, 19), (0, 20)], []), [130], [], ([(none, ([(0, 19), (0, 20)], []), [130], [])], [(130, 4), (131, 0), (133, 0), (134, 0)]))
def gc_H173 : List tk_Hd := [(10, [(0, (2, 0, 0, 0)), (1, (0, 1, 1, 0)), (2, (0, 2, 1, 0)), (3, (0, 3, 1, 0))], ([(0, 19), (0, 20), (0, 10)], []), [130], [], [(0, 0, (0, 0, 0, 0)), (1, 10, (0, 3, 1, 0)), (0, 0, (0, 0, 0, 0))])]
theorem gc_173 (hU : gc_U tw) (hxt : tk_xtok xt) : tk_KS l D gk_cl gk_tbl gk_xw xt gk_MN gk_P gc_TY ro (gc_X tw) ads tw 1 gc_K173 := tk_contract (hk := tk_hk0) tk_hk0_ok (gc_xs hU) hxt gk_rok [] 9000 0 3 (Ks := []) (d := 0) (fun _ h => absurd h List.not_mem_nil) (Hs := gc_H173) (by decide +kernel) rfl
/-- Lake.load -/
def gc_K174 : tk_K := (41, [(2, 0, 0, 0), (0, 1, 1, 0), (0, 0, 0, 0)], ([(0, 9), (1, 10017), (1, 10)], []), [124], [(0, (0, 0, 0, 13), (0, 2, 1, 0)), (0, (0, 0, 0, 8), (0, 3, 1, 0))], ([(some (0, 4, 1, 0), ([(0, 9), (1, 10017), (1, 10), ((-2147483648), 2147483647)], []), [124], [])], []))
def gc_H174 : List tk_Hd := [(18, [(0, (2, 0, 0, 0)), (1, (0, 1, 1, 0)), (2, (0, 0, 0, 0)), (3, (0, 4, 1, 0)), (4, (0, 5, 1, 0)), (5, (0, 6, 1, 0))], ([(0, 9), (1, 10017), (1, 10), (0, 255), (0, 1023), (0, 2147483647)], []), [124], [(0, (0, 0, 0, 13), (0, 2, 1, 0)), (0, (0, 0, 0, 8), (0, 3, 1, 0))], [(0, 1, (0, 0, 0, 0)), (1, 2147483647, (0, 6, 1, 0)), (0, 0, (0, 0, 0, 0))]), (83, [(0, (2, 0, 0, 0)), (1, (0, 1, 1, 0)), (2, (0, 0, 0, 0)), (3, (0, 4, 1, 0)), (4, (0, 5, 1, 0)), (5, (0, 6, 1, 0)), (6, (0, 7, 1, 0))], ([(0, 9), (1, 10017), (1, 10), (0, 255), (0, 1023), ((-2147483648), 2147483647), (0, 2147483647)], []), [124], [(0, (0, 0, 0, 13), (0, 2, 1, 0)), (0, (0, 0, 0, 8), (0, 3, 1, 0))], [(0, 0, (0, 0, 0, 0)), (1, 2147483647, (0, 7, 1, 0)), (0, 0, (0, 0, 0, 0))])]
theorem gc_174 (hU : gc_U tw) (hxt : tk_xtok xt) : tk_KS l D gk_cl gk_tbl gk_xw xt gk_MN gk_P gc_TY ro (gc_X tw) ads tw 1 gc_K174 := tk_contract (hk := tk_hk0) tk_hk0_ok (gc_xs hU) hxt gk_rok [] 9000 0 3 (Ks := []) (d := 0) (fun _ h => absurd h List.not_mem_nil) (Hs := gc_H174) (by decide +kernel) rfl
/-- Lake.weighAll -/
def gc_K175 : tk_K := (52, [(2, 0, 0, 0)], ([(1, 10017)], []), [124], [(0, (0, 0, 0, 13), (0, 1, 1, 0))], ([(none, ([(1, 10017)], []), [124], [])], [(129, 0)]))
def gc_H175 : List tk_Hd := [(2, [(0, (2, 0, 0, 0)), (1, (0, 2, 1, 0))], ([(1, 10017), (0, 2147483647)], []), [124], [(0, (0, 0, 0, 13), (0, 1, 1, 0))], [(0, 0, (0, 0, 0, 0)), (1, 2147483647, (0, 2, 1, 0)), (0, 0, (0, 0, 0, 0))])]
theorem gc_175 (hU : gc_U tw) (hxt : tk_xtok xt) : tk_KS l D gk_cl gk_tbl gk_xw xt gk_MN gk_P gc_TY ro (gc_X tw) ads tw 2 gc_K175 := tk_contract (hk := tk_hk0) tk_hk0_ok (gc_xs hU) hxt gk_rok [] 9000 0 3 (Ks := [gc_K174]) (d := 1) (List.forall_mem_cons.mpr ⟨tk_KS_up (by decide) (gc_174 hU hxt), (fun _ h => absurd h List.not_mem_nil)⟩) (Hs := gc_H175) (by decide +kernel) rfl
/-- Lake.overloaded -/
def gc_K176 : tk_K := (53, [(2, 0, 0, 0)], ([(1, 10017)], []), [124], [(0, (0, 0, 0, 13), (0, 1, 1, 0))], ([(some (0, 2, 1, 0), ([(1, 10017), (0, 2147483647)], []), [124], [])], []))
def gc_H176 : List tk_Hd := [(9, [(0, (2, 0, 0, 0)), (1, (0, 2, 1, 0)), (2, (0, 3, 1, 0)), (3, (0, 4, 1, 0))], ([(1, 10017), (0, 2147483647), ((-2147483648), 2147483647), (0, 2147483647)], []), [124], [(0, (0, 0, 0, 13), (0, 1, 1, 0))], [(0, 0, (0, 0, 0, 0)), (1, 2147483647, (0, 4, 1, 0)), (0, 0, (0, 0, 0, 0))])]
theorem gc_176 (hU : gc_U tw) (hxt : tk_xtok xt) : tk_KS l D gk_cl gk_tbl gk_xw xt gk_MN gk_P gc_TY ro (gc_X tw) ads tw 2 gc_K176 := tk_contract (hk := tk_hk0) tk_hk0_ok (gc_xs hU) hxt gk_rok [39, 40] 9000 1 3 (Ks := []) (d := 0) (fun _ h => absurd h List.not_mem_nil) (Hs := gc_H176) (by decide +kernel) rfl
/-- Lake.noteLoads -/
def gc_K177 : tk_K := (55, [(2, 0, 0, 0)], ([(1, 10017)], []), [124], [(0, (0, 0, 0, 13), (0, 1, 1, 0))], ([(none, ([(1, 10017)], []), [124], [])], [(132, 0)]))
def gc_H177 : List tk_Hd := [(7, [(0, (2, 0, 0, 0)), (1, (0, 2, 1, 0)), (2, (0, 3, 1, 0))], ([(1, 10017), ((-2147483648), 2147483647), (0, 2147483647)], []), [124], [(0, (0, 0, 0, 13), (0, 1, 1, 0))], [(0, 0, (0, 0, 0, 0)), (1, 2147483647, (0, 3, 1, 0)), (0, 0, (0, 0, 0, 0))])]
theorem gc_177 (hU : gc_U tw) (hxt : tk_xtok xt) : tk_KS l D gk_cl gk_tbl gk_xw xt gk_MN gk_P gc_TY ro (gc_X tw) ads tw 2 gc_K177 := tk_contract (hk := tk_hk0) tk_hk0_ok (gc_xs hU) hxt gk_rok [39] 9000 1 3 (Ks := []) (d := 0) (fun _ h => absurd h List.not_mem_nil) (Hs := gc_H177) (by decide +kernel) rfl
/-- Ice.shatter -/
def gc_K178 : tk_K := (28, [(2, 0, 0, 0), (0, 1, 1, 0)], ([(0, 9)], []), [130], [], ([(none, ([(0, 9)], []), [130], [])], [(130, 4), (130, 5), (131, 0), (133, 0), (134, 0)]))
def gc_H178 : List tk_Hd := [(43, [(0, (2, 0, 0, 0)), (1, (0, 1, 1, 0)), (2, (0, 2, 1, 0))], ([(0, 9), (0, 2147483647)], []), [130], [], [(0, 0, (0, 0, 0, 0)), (1, 2147483647, (0, 2, 1, 0)), (0, 0, (0, 0, 0, 0))])]
theorem gc_178 (hU : gc_U tw) (hxt : tk_xtok xt) : tk_KS l D gk_cl gk_tbl gk_xw xt gk_MN gk_P gc_TY ro (gc_X tw) ads tw 1 gc_K178 := tk_contract (hk := tk_hk0) tk_hk0_ok (gc_xs hU) hxt gk_rok [] 9000 0 3 (Ks := []) (d := 0) (fun _ h => absurd h List.not_mem_nil) (Hs := gc_H178) (by decide +kernel) rfl
/-- Lake.crack -/
def gc_K179 : tk_K := (54, [(2, 0, 0, 0), (0, 1, 1, 0)], ([(1, 2147483647), (1, 10017)], []), [124], [(0, (0, 0, 0, 13), (0, 2, 1, 0))], ([(none, ([(1, 2147483647), (1, 10017)], []), [124], [])], [(130, 4), (130, 5), (131, 0), (133, 0), (134, 0), (135, 8), (135, 9)]))
def gc_H179 : List tk_Hd := [(2, [(0, (2, 0, 0, 0)), (1, (0, 1, 1, 0)), (2, (0, 3, 1, 0))], ([(1, 2147483647), (1, 10017), (0, 2147483647)], []), [124], [(0, (0, 0, 0, 13), (0, 2, 1, 0))], [(0, 0, (0, 0, 0, 0)), (1, 2147483647, (0, 3, 1, 0)), (0, 0, (0, 0, 0, 0))])]
theorem gc_179 (hU : gc_U tw) (hxt : tk_xtok xt) : tk_KS l D gk_cl gk_tbl gk_xw xt gk_MN gk_P gc_TY ro (gc_X tw) ads tw 3 gc_K179 := tk_contract (hk := tk_hk0) tk_hk0_ok (gc_xs hU) hxt gk_rok [12] 9000 1 3 (Ks := [gc_K178]) (d := 1) (List.forall_mem_cons.mpr ⟨tk_KS_up (by decide) (gc_178 hU hxt), (fun _ h => absurd h List.not_mem_nil)⟩) (Hs := gc_H179) (by decide +kernel) rfl
end GC13
end MH33_0
section MH33_1
section GC14
variable {l : Launch} {D : va_G} {xt : tk_XT} {ro : Nat → Nat → Int → Prop} {ads tw : List Nat}
/-- Crew.ahead -/
def gc_K180 : tk_K := (9, [(2, 0, 0, 0), (0, 1, 1, 0), (0, 0, 0, 0)], ([(0, 7)], []), [135], [], ([(some (0, 2, 1, 0), ([(0, 7), ((-1), 9)], []), [135], [])], []))
def gc_H180 : List tk_Hd := []
theorem gc_180 (hU : gc_U tw) (hxt : tk_xtok xt) : tk_KS l D gk_cl gk_tbl gk_xw xt gk_MN gk_P gc_TY ro (gc_X tw) ads tw 1 gc_K180 := tk_contract (hk := tk_hk0) tk_hk0_ok (gc_xs hU) hxt gk_rok [] 9000 0 0 (Ks := []) (d := 0) (fun _ h => absurd h List.not_mem_nil) (Hs := gc_H180) (by decide +kernel) rfl
/-- Crew.advance -/
def gc_K181 : tk_K := (10, [(2, 0, 0, 0), (0, 1, 1, 0), (0, 2, 1, 0)], ([(0, 7), (0, 9)], []), [135], [], ([(none, ([(0, 7), (0, 9)], []), [135], [])], [(135, 9), (138, 0), (139, 0), (140, 0), (141, 0)]))
def gc_H181 : List tk_Hd := []
theorem gc_181 (hU : gc_U tw) (hxt : tk_xtok xt) : tk_KS l D gk_cl gk_tbl gk_xw xt gk_MN gk_P gc_TY ro (gc_X tw) ads tw 1 gc_K181 := tk_contract (hk := tk_hk0) tk_hk0_ok (gc_xs hU) hxt gk_rok [] 9000 0 0 (Ks := []) (d := 0) (fun _ h => absurd h List.not_mem_nil) (Hs := gc_H181) (by decide +kernel) rfl
/-- Ice.enter -/
def gc_K182 : tk_K := (26, [(2, 0, 0, 0), (0, 1, 1, 0), (0, 2, 1, 0)], ([(0, 9), (0, 19)], []), [130], [], ([(none, ([(0, 9), (0, 19)], []), [130], [])], [(130, 4), (133, 0), (134, 0)]))
def gc_H182 : List tk_Hd := []
theorem gc_182 (hU : gc_U tw) (hxt : tk_xtok xt) : tk_KS l D gk_cl gk_tbl gk_xw xt gk_MN gk_P gc_TY ro (gc_X tw) ads tw 1 gc_K182 := tk_contract (hk := tk_hk0) tk_hk0_ok (gc_xs hU) hxt gk_rok [] 9000 0 0 (Ks := []) (d := 0) (fun _ h => absurd h List.not_mem_nil) (Hs := gc_H182) (by decide +kernel) rfl
/-- Lake.moveOne -/
def gc_K183 : tk_K := (51, [(2, 0, 0, 0), (0, 1, 1, 0), (0, 2, 1, 0)], ([(0, 7), (0, 19), (1, 10017)], []), [124], [(0, (0, 0, 0, 13), (0, 3, 1, 0))], ([(none, ([(0, 7), (0, 19), (1, 10017)], []), [124], [])], [(128, 0), (130, 4), (133, 0), (134, 0), (135, 8), (135, 9), (138, 0), (139, 0), (140, 0), (141, 0)]))
def gc_H183 : List tk_Hd := []
theorem gc_183 (hU : gc_U tw) (hxt : tk_xtok xt) : tk_KS l D gk_cl gk_tbl gk_xw xt gk_MN gk_P gc_TY ro (gc_X tw) ads tw 3 gc_K183 := tk_contract (hk := tk_hk0) tk_hk0_ok (gc_xs hU) hxt gk_rok [12, 34] 9000 1 0 (Ks := [gc_K180, gc_K181, gc_K182]) (d := 1) (List.forall_mem_cons.mpr ⟨tk_KS_up (by decide) (gc_180 hU hxt), (List.forall_mem_cons.mpr ⟨tk_KS_up (by decide) (gc_181 hU hxt), (List.forall_mem_cons.mpr ⟨tk_KS_up (by decide) (gc_182 hU hxt), (fun _ h => absurd h List.not_mem_nil)⟩)⟩)⟩) (Hs := gc_H183) (by decide +kernel) rfl
/-- Lake.walkOnce -/
def gc_K184 : tk_K := (50, [(2, 0, 0, 0)], ([(1, 10016)], []), [124], [(0, (0, 0, 0, 13), (0, 1, 1, 0))], ([(some (0, 2, 1, 0), ([(1, 10016), (0, 2147483647)], []), [124], [(0, (0, 0, 0, 13), (0, 1, 1, 1))])], [(124, 13), (128, 0), (129, 0), (130, 4), (130, 5), (131, 0), (132, 0), (133, 0), (134, 0), (135, 8), (135, 9), (138, 0), (139, 0), (140, 0), (141, 0)]))
def gc_H184 : List tk_Hd := [(54, [(0, (2, 0, 0, 0)), (1, (0, 2, 1, 0)), (2, (0, 3, 1, 0))], ([(1, 10016), (0, 19), (0, 2147483647)], []), [124], [(0, (0, 0, 0, 13), (0, 1, 1, 1))], [(0, 0, (0, 0, 0, 0)), (1, 2147483647, (0, 3, 1, 0)), (0, 0, (0, 0, 0, 0))])]
theorem gc_184 (hU : gc_U tw) (hxt : tk_xtok xt) : tk_KS l D gk_cl gk_tbl gk_xw xt gk_MN gk_P gc_TY ro (gc_X tw) ads tw 4 gc_K184 := tk_contract (hk := tk_hk0) tk_hk0_ok (gc_xs hU) hxt gk_rok [] 9000 0 3 (Ks := [gc_K173, gc_K175, gc_K176, gc_K177, gc_K179, gc_K183]) (d := 3) (List.forall_mem_cons.mpr ⟨tk_KS_up (by decide) (gc_173 hU hxt), (List.forall_mem_cons.mpr ⟨tk_KS_up (by decide) (gc_175 hU hxt), (List.forall_mem_cons.mpr ⟨tk_KS_up (by decide) (gc_176 hU hxt), (List.forall_mem_cons.mpr ⟨tk_KS_up (by decide) (gc_177 hU hxt), (List.forall_mem_cons.mpr ⟨tk_KS_up (by decide) (gc_179 hU hxt), (List.forall_mem_cons.mpr ⟨tk_KS_up (by decide) (gc_183 hU hxt), (fun _ h => absurd h List.not_mem_nil)⟩)⟩)⟩)⟩)⟩)⟩) (Hs := gc_H184) (by decide +kernel) rfl
/-- Queue.finish -/
def gc_K185 : tk_K := (98, [(2, 0, 0, 0), (2, 1, 0, 0), (0, 1, 1, 0)], ([(2, 18), (1, 12), (3, 1000000), (1, 10006)], []), [96, 124], [(0, (0, 0, 0, 10), (0, 2, 1, 0)), (0, (0, 0, 0, 8), (0, 3, 1, 0)), (0, (0, 0, 0, 9), (0, 0, 0, 2)), (1, (0, 0, 0, 13), (0, 4, 1, 0))], ([(none, ([(2, 18), (1, 12), (3, 1000000), (1, 10006), (1, 1000000)], []), [96, 124], [(0, (0, 0, 0, 8), (0, 5, 1, 0))])], [(96, 7), (96, 8), (124, 13), (128, 0), (129, 0), (130, 4), (130, 5), (131, 0), (132, 0), (133, 0), (134, 0), (135, 8), (135, 9), (138, 0), (139, 0), (140, 0), (141, 0), (205, 0), (206, 0)]))
def gc_H185 : List tk_Hd := [(2, [(0, (2, 0, 0, 0)), (1, (2, 1, 0, 0)), (2, (0, 1, 1, 0)), (3, (0, 5, 1, 0))], ([(2, 18), (1, 12), (3, 1000000), (1, 10006), (1, 2147483647), (1, 2147483647)], [(5, 4, 10005)]), [96, 124], [(0, (0, 0, 0, 10), (0, 2, 1, 0)), (0, (0, 0, 0, 8), (0, 3, 1, 0)), (0, (0, 0, 0, 9), (0, 0, 0, 2)), (1, (0, 0, 0, 13), (0, 6, 1, 0))], [(0, 0, (0, 0, 0, 0)), (1, 2147483647, (0, 6, 1, 0)), (0, 0, (0, 0, 0, 0))])]
theorem gc_185 (hU : gc_U tw) (hxt : tk_xtok xt) : tk_KS l D gk_cl gk_tbl gk_xw xt gk_MN gk_P gc_TY ro (gc_X tw) ads tw 5 gc_K185 := tk_contract (hk := (tk_hks [(10, [])])) (tk_hks_ok _) (gc_xs hU) hxt gk_rok [] 9000 0 3 (Ks := [gc_K184]) (d := 4) (List.forall_mem_cons.mpr ⟨tk_KS_up (by decide) (gc_184 hU hxt), (fun _ h => absurd h List.not_mem_nil)⟩) (Hs := gc_H185) (by decide +kernel) rfl
/-- Ice.copyFrom -/
def gc_K186 : tk_K := (25, [(2, 0, 0, 0), (2, 1, 0, 0)], ([], []), [156, 130], [], ([(none, ([], []), [156, 130], [])], [(156, 4), (156, 5), (157, 0), (158, 0), (159, 0), (160, 0)]))
def gc_H186 : List tk_Hd := []
theorem gc_186 (hU : gc_U tw) (hxt : tk_xtok xt) : tk_KS l D gk_cl gk_tbl gk_xw xt gk_MN gk_P gc_TY ro (gc_X tw) ads tw 1 gc_K186 := tk_contract (hk := tk_hk0) tk_hk0_ok (gc_xs hU) hxt gk_rok [] 9000 0 0 (Ks := []) (d := 0) (fun _ h => absurd h List.not_mem_nil) (Hs := gc_H186) (by decide +kernel) rfl
/-- Crew.copyFrom -/
def gc_K187 : tk_K := (2, [(2, 0, 0, 0), (2, 1, 0, 0)], ([], []), [161, 135], [], ([(none, ([], []), [161, 135], [])], [(161, 7), (161, 8), (161, 9), (162, 0), (163, 0), (164, 0), (165, 0), (166, 0), (167, 0), (168, 0)]))
def gc_H187 : List tk_Hd := []
theorem gc_187 (hU : gc_U tw) (hxt : tk_xtok xt) : tk_KS l D gk_cl gk_tbl gk_xw xt gk_MN gk_P gc_TY ro (gc_X tw) ads tw 1 gc_K187 := tk_contract (hk := tk_hk0) tk_hk0_ok (gc_xs hU) hxt gk_rok [] 9000 0 0 (Ks := []) (d := 0) (fun _ h => absurd h List.not_mem_nil) (Hs := gc_H187) (by decide +kernel) rfl
/-- Lake.copyFrom -/
def gc_K188 : tk_K := (31, [(2, 0, 0, 0), (2, 1, 0, 0)], ([(1, 10011)], []), [150, 124], [(1, (0, 0, 0, 13), (0, 1, 1, 0))], ([(none, ([(1, 10011)], []), [150, 124], [(0, (0, 0, 0, 13), (0, 1, 1, 0))])], [(150, 8), (150, 9), (150, 10), (150, 11), (150, 12), (150, 13), (151, 0), (152, 0), (153, 0), (154, 0), (156, 4), (156, 5), (157, 0), (158, 0), (159, 0), (160, 0), (161, 7), (161, 8), (161, 9), (162, 0), (163, 0), (164, 0), (165, 0), (166, 0), (167, 0), (168, 0)]))
def gc_H188 : List tk_Hd := []
theorem gc_188 (hU : gc_U tw) (hxt : tk_xtok xt) : tk_KS l D gk_cl gk_tbl gk_xw xt gk_MN gk_P gc_TY ro (gc_X tw) ads tw 2 gc_K188 := tk_contract (hk := tk_hk0) tk_hk0_ok (gc_xs hU) hxt gk_rok [] 9000 0 0 (Ks := [gc_K186, gc_K187]) (d := 1) (List.forall_mem_cons.mpr ⟨tk_KS_up (by decide) (gc_186 hU hxt), (List.forall_mem_cons.mpr ⟨tk_KS_up (by decide) (gc_187 hU hxt), (fun _ h => absurd h List.not_mem_nil)⟩)⟩) (Hs := gc_H188) (by decide +kernel) rfl
/-- Crew.aim -/
def gc_K189 : tk_K := (8, [(2, 0, 0, 0), (0, 1, 1, 0), (2, 1, 0, 0), (0, 2, 1, 0)], ([(0, 7), (1, 12)], []), [161, 207], [], ([(none, ([(0, 7), (1, 12)], []), [161, 207], [])], [(161, 9), (166, 0), (167, 0), (168, 0)]))
def gc_H189 : List tk_Hd := []
theorem gc_189 (hU : gc_U tw) (hxt : tk_xtok xt) : tk_KS l D gk_cl gk_tbl gk_xw xt gk_MN gk_P gc_TY ro (gc_X tw) ads tw 1 gc_K189 := tk_contract (hk := tk_hk0) tk_hk0_ok (gc_xs hU) hxt gk_rok [] 9000 0 0 (Ks := []) (d := 0) (fun _ h => absurd h List.not_mem_nil) (Hs := gc_H189) (by decide +kernel) rfl
/-- Ice.heal -/
def gc_K190 : tk_K := (27, [(2, 0, 0, 0), (0, 1, 1, 0), (0, 2, 1, 0)], ([(0, 19), (0, 20)], []), [156], [], ([(none, ([(0, 19), (0, 20)], []), [156], [])], [(156, 4), (157, 0), (159, 0), (160, 0)]))
def gc_H190 : List tk_Hd := [(10, [(0, (2, 0, 0, 0)), (1, (0, 1, 1, 0)), (2, (0, 2, 1, 0)), (3, (0, 3, 1, 0))], ([(0, 19), (0, 20), (0, 10)], []), [156], [], [(0, 0, (0, 0, 0, 0)), (1, 10, (0, 3, 1, 0)), (0, 0, (0, 0, 0, 0))])]
theorem gc_190 (hU : gc_U tw) (hxt : tk_xtok xt) : tk_KS l D gk_cl gk_tbl gk_xw xt gk_MN gk_P gc_TY ro (gc_X tw) ads tw 1 gc_K190 := tk_contract (hk := tk_hk0) tk_hk0_ok (gc_xs hU) hxt gk_rok [] 9000 0 3 (Ks := []) (d := 0) (fun _ h => absurd h List.not_mem_nil) (Hs := gc_H190) (by decide +kernel) rfl
/-- Lake.load -/
def gc_K191 : tk_K := (41, [(2, 0, 0, 0), (0, 1, 1, 0), (0, 0, 0, 0)], ([(0, 9), (1, 10023), (1, 10)], []), [150], [(0, (0, 0, 0, 13), (0, 2, 1, 0)), (0, (0, 0, 0, 8), (0, 3, 1, 0))], ([(some (0, 4, 1, 0), ([(0, 9), (1, 10023), (1, 10), ((-2147483648), 2147483647)], []), [150], [])], []))
def gc_H191 : List tk_Hd := [(18, [(0, (2, 0, 0, 0)), (1, (0, 1, 1, 0)), (2, (0, 0, 0, 0)), (3, (0, 4, 1, 0)), (4, (0, 5, 1, 0)), (5, (0, 6, 1, 0))], ([(0, 9), (1, 10023), (1, 10), (0, 255), (0, 1023), (0, 2147483647)], []), [150], [(0, (0, 0, 0, 13), (0, 2, 1, 0)), (0, (0, 0, 0, 8), (0, 3, 1, 0))], [(0, 1, (0, 0, 0, 0)), (1, 2147483647, (0, 6, 1, 0)), (0, 0, (0, 0, 0, 0))]), (83, [(0, (2, 0, 0, 0)), (1, (0, 1, 1, 0)), (2, (0, 0, 0, 0)), (3, (0, 4, 1, 0)), (4, (0, 5, 1, 0)), (5, (0, 6, 1, 0)), (6, (0, 7, 1, 0))], ([(0, 9), (1, 10023), (1, 10), (0, 255), (0, 1023), ((-2147483648), 2147483647), (0, 2147483647)], []), [150], [(0, (0, 0, 0, 13), (0, 2, 1, 0)), (0, (0, 0, 0, 8), (0, 3, 1, 0))], [(0, 0, (0, 0, 0, 0)), (1, 2147483647, (0, 7, 1, 0)), (0, 0, (0, 0, 0, 0))])]
theorem gc_191 (hU : gc_U tw) (hxt : tk_xtok xt) : tk_KS l D gk_cl gk_tbl gk_xw xt gk_MN gk_P gc_TY ro (gc_X tw) ads tw 1 gc_K191 := tk_contract (hk := tk_hk0) tk_hk0_ok (gc_xs hU) hxt gk_rok [] 9000 0 3 (Ks := []) (d := 0) (fun _ h => absurd h List.not_mem_nil) (Hs := gc_H191) (by decide +kernel) rfl
/-- Lake.weighAll -/
def gc_K192 : tk_K := (52, [(2, 0, 0, 0)], ([(1, 10023)], []), [150], [(0, (0, 0, 0, 13), (0, 1, 1, 0))], ([(none, ([(1, 10023)], []), [150], [])], [(155, 0)]))
def gc_H192 : List tk_Hd := [(2, [(0, (2, 0, 0, 0)), (1, (0, 2, 1, 0))], ([(1, 10023), (0, 2147483647)], []), [150], [(0, (0, 0, 0, 13), (0, 1, 1, 0))], [(0, 0, (0, 0, 0, 0)), (1, 2147483647, (0, 2, 1, 0)), (0, 0, (0, 0, 0, 0))])]
theorem gc_192 (hU : gc_U tw) (hxt : tk_xtok xt) : tk_KS l D gk_cl gk_tbl gk_xw xt gk_MN gk_P gc_TY ro (gc_X tw) ads tw 2 gc_K192 := tk_contract (hk := tk_hk0) tk_hk0_ok (gc_xs hU) hxt gk_rok [] 9000 0 3 (Ks := [gc_K191]) (d := 1) (List.forall_mem_cons.mpr ⟨tk_KS_up (by decide) (gc_191 hU hxt), (fun _ h => absurd h List.not_mem_nil)⟩) (Hs := gc_H192) (by decide +kernel) rfl
/-- Lake.overloaded -/
def gc_K193 : tk_K := (53, [(2, 0, 0, 0)], ([(1, 10023)], []), [150], [(0, (0, 0, 0, 13), (0, 1, 1, 0))], ([(some (0, 2, 1, 0), ([(1, 10023), (0, 2147483647)], []), [150], [])], []))
def gc_H193 : List tk_Hd := [(9, [(0, (2, 0, 0, 0)), (1, (0, 2, 1, 0)), (2, (0, 3, 1, 0)), (3, (0, 4, 1, 0))], ([(1, 10023), (0, 2147483647), ((-2147483648), 2147483647), (0, 2147483647)], []), [150], [(0, (0, 0, 0, 13), (0, 1, 1, 0))], [(0, 0, (0, 0, 0, 0)), (1, 2147483647, (0, 4, 1, 0)), (0, 0, (0, 0, 0, 0))])]
theorem gc_193 (hU : gc_U tw) (hxt : tk_xtok xt) : tk_KS l D gk_cl gk_tbl gk_xw xt gk_MN gk_P gc_TY ro (gc_X tw) ads tw 2 gc_K193 := tk_contract (hk := tk_hk0) tk_hk0_ok (gc_xs hU) hxt gk_rok [39, 40] 9000 1 3 (Ks := []) (d := 0) (fun _ h => absurd h List.not_mem_nil) (Hs := gc_H193) (by decide +kernel) rfl
/-- Lake.noteLoads -/
def gc_K194 : tk_K := (55, [(2, 0, 0, 0)], ([(1, 10023)], []), [150], [(0, (0, 0, 0, 13), (0, 1, 1, 0))], ([(none, ([(1, 10023)], []), [150], [])], [(158, 0)]))
def gc_H194 : List tk_Hd := [(7, [(0, (2, 0, 0, 0)), (1, (0, 2, 1, 0)), (2, (0, 3, 1, 0))], ([(1, 10023), ((-2147483648), 2147483647), (0, 2147483647)], []), [150], [(0, (0, 0, 0, 13), (0, 1, 1, 0))], [(0, 0, (0, 0, 0, 0)), (1, 2147483647, (0, 3, 1, 0)), (0, 0, (0, 0, 0, 0))])]
theorem gc_194 (hU : gc_U tw) (hxt : tk_xtok xt) : tk_KS l D gk_cl gk_tbl gk_xw xt gk_MN gk_P gc_TY ro (gc_X tw) ads tw 2 gc_K194 := tk_contract (hk := tk_hk0) tk_hk0_ok (gc_xs hU) hxt gk_rok [39] 9000 1 3 (Ks := []) (d := 0) (fun _ h => absurd h List.not_mem_nil) (Hs := gc_H194) (by decide +kernel) rfl
/-- Ice.shatter -/
def gc_K195 : tk_K := (28, [(2, 0, 0, 0), (0, 1, 1, 0)], ([(0, 9)], []), [156], [], ([(none, ([(0, 9)], []), [156], [])], [(156, 4), (156, 5), (157, 0), (159, 0), (160, 0)]))
def gc_H195 : List tk_Hd := [(43, [(0, (2, 0, 0, 0)), (1, (0, 1, 1, 0)), (2, (0, 2, 1, 0))], ([(0, 9), (0, 2147483647)], []), [156], [], [(0, 0, (0, 0, 0, 0)), (1, 2147483647, (0, 2, 1, 0)), (0, 0, (0, 0, 0, 0))])]
theorem gc_195 (hU : gc_U tw) (hxt : tk_xtok xt) : tk_KS l D gk_cl gk_tbl gk_xw xt gk_MN gk_P gc_TY ro (gc_X tw) ads tw 1 gc_K195 := tk_contract (hk := tk_hk0) tk_hk0_ok (gc_xs hU) hxt gk_rok [] 9000 0 3 (Ks := []) (d := 0) (fun _ h => absurd h List.not_mem_nil) (Hs := gc_H195) (by decide +kernel) rfl
/-- Lake.crack -/
def gc_K196 : tk_K := (54, [(2, 0, 0, 0), (0, 1, 1, 0)], ([(1, 2147483647), (1, 10023)], []), [150], [(0, (0, 0, 0, 13), (0, 2, 1, 0))], ([(none, ([(1, 2147483647), (1, 10023)], []), [150], [])], [(156, 4), (156, 5), (157, 0), (159, 0), (160, 0), (161, 8), (161, 9)]))
def gc_H196 : List tk_Hd := [(2, [(0, (2, 0, 0, 0)), (1, (0, 1, 1, 0)), (2, (0, 3, 1, 0))], ([(1, 2147483647), (1, 10023), (0, 2147483647)], []), [150], [(0, (0, 0, 0, 13), (0, 2, 1, 0))], [(0, 0, (0, 0, 0, 0)), (1, 2147483647, (0, 3, 1, 0)), (0, 0, (0, 0, 0, 0))])]
theorem gc_196 (hU : gc_U tw) (hxt : tk_xtok xt) : tk_KS l D gk_cl gk_tbl gk_xw xt gk_MN gk_P gc_TY ro (gc_X tw) ads tw 3 gc_K196 := tk_contract (hk := tk_hk0) tk_hk0_ok (gc_xs hU) hxt gk_rok [12] 9000 1 3 (Ks := [gc_K195]) (d := 1) (List.forall_mem_cons.mpr ⟨tk_KS_up (by decide) (gc_195 hU hxt), (fun _ h => absurd h List.not_mem_nil)⟩) (Hs := gc_H196) (by decide +kernel) rfl
/-- Crew.ahead -/
def gc_K197 : tk_K := (9, [(2, 0, 0, 0), (0, 1, 1, 0), (0, 0, 0, 0)], ([(0, 7)], []), [161], [], ([(some (0, 2, 1, 0), ([(0, 7), ((-1), 9)], []), [161], [])], []))
def gc_H197 : List tk_Hd := []
theorem gc_197 (hU : gc_U tw) (hxt : tk_xtok xt) : tk_KS l D gk_cl gk_tbl gk_xw xt gk_MN gk_P gc_TY ro (gc_X tw) ads tw 1 gc_K197 := tk_contract (hk := tk_hk0) tk_hk0_ok (gc_xs hU) hxt gk_rok [] 9000 0 0 (Ks := []) (d := 0) (fun _ h => absurd h List.not_mem_nil) (Hs := gc_H197) (by decide +kernel) rfl
/-- Crew.advance -/
def gc_K198 : tk_K := (10, [(2, 0, 0, 0), (0, 1, 1, 0), (0, 2, 1, 0)], ([(0, 7), (0, 9)], []), [161], [], ([(none, ([(0, 7), (0, 9)], []), [161], [])], [(161, 9), (164, 0), (165, 0), (166, 0), (167, 0)]))
def gc_H198 : List tk_Hd := []
theorem gc_198 (hU : gc_U tw) (hxt : tk_xtok xt) : tk_KS l D gk_cl gk_tbl gk_xw xt gk_MN gk_P gc_TY ro (gc_X tw) ads tw 1 gc_K198 := tk_contract (hk := tk_hk0) tk_hk0_ok (gc_xs hU) hxt gk_rok [] 9000 0 0 (Ks := []) (d := 0) (fun _ h => absurd h List.not_mem_nil) (Hs := gc_H198) (by decide +kernel) rfl
/-- Ice.enter -/
def gc_K199 : tk_K := (26, [(2, 0, 0, 0), (0, 1, 1, 0), (0, 2, 1, 0)], ([(0, 9), (0, 19)], []), [156], [], ([(none, ([(0, 9), (0, 19)], []), [156], [])], [(156, 4), (159, 0), (160, 0)]))
def gc_H199 : List tk_Hd := []
theorem gc_199 (hU : gc_U tw) (hxt : tk_xtok xt) : tk_KS l D gk_cl gk_tbl gk_xw xt gk_MN gk_P gc_TY ro (gc_X tw) ads tw 1 gc_K199 := tk_contract (hk := tk_hk0) tk_hk0_ok (gc_xs hU) hxt gk_rok [] 9000 0 0 (Ks := []) (d := 0) (fun _ h => absurd h List.not_mem_nil) (Hs := gc_H199) (by decide +kernel) rfl
/-- Lake.moveOne -/
def gc_K200 : tk_K := (51, [(2, 0, 0, 0), (0, 1, 1, 0), (0, 2, 1, 0)], ([(0, 7), (0, 19), (1, 10023)], []), [150], [(0, (0, 0, 0, 13), (0, 3, 1, 0))], ([(none, ([(0, 7), (0, 19), (1, 10023)], []), [150], [])], [(154, 0), (156, 4), (159, 0), (160, 0), (161, 8), (161, 9), (164, 0), (165, 0), (166, 0), (167, 0)]))
def gc_H200 : List tk_Hd := []
theorem gc_200 (hU : gc_U tw) (hxt : tk_xtok xt) : tk_KS l D gk_cl gk_tbl gk_xw xt gk_MN gk_P gc_TY ro (gc_X tw) ads tw 3 gc_K200 := tk_contract (hk := tk_hk0) tk_hk0_ok (gc_xs hU) hxt gk_rok [12, 34] 9000 1 0 (Ks := [gc_K197, gc_K198, gc_K199]) (d := 1) (List.forall_mem_cons.mpr ⟨tk_KS_up (by decide) (gc_197 hU hxt), (List.forall_mem_cons.mpr ⟨tk_KS_up (by decide) (gc_198 hU hxt), (List.forall_mem_cons.mpr ⟨tk_KS_up (by decide) (gc_199 hU hxt), (fun _ h => absurd h List.not_mem_nil)⟩)⟩)⟩) (Hs := gc_H200) (by decide +kernel) rfl
/-- Lake.walkOnce -/
def gc_K201 : tk_K := (50, [(2, 0, 0, 0)], ([(1, 10022)], []), [150], [(0, (0, 0, 0, 13), (0, 1, 1, 0))], ([(some (0, 2, 1, 0), ([(1, 10022), (0, 2147483647)], []), [150], [(0, (0, 0, 0, 13), (0, 1, 1, 1))])], [(150, 13), (154, 0), (155, 0), (156, 4), (156, 5), (157, 0), (158, 0), (159, 0), (160, 0), (161, 8), (161, 9), (164, 0), (165, 0), (166, 0), (167, 0)]))
def gc_H201 : List tk_Hd := [(54, [(0, (2, 0, 0, 0)), (1, (0, 2, 1, 0)), (2, (0, 3, 1, 0))], ([(1, 10022), (0, 19), (0, 2147483647)], []), [150], [(0, (0, 0, 0, 13), (0, 1, 1, 1))], [(0, 0, (0, 0, 0, 0)), (1, 2147483647, (0, 3, 1, 0)), (0, 0, (0, 0, 0, 0))])]
theorem gc_201 (hU : gc_U tw) (hxt : tk_xtok xt) : tk_KS l D gk_cl gk_tbl gk_xw xt gk_MN gk_P gc_TY ro (gc_X tw) ads tw 4 gc_K201 := tk_contract (hk := tk_hk0) tk_hk0_ok (gc_xs hU) hxt gk_rok [] 9000 0 3 (Ks := [gc_K190, gc_K192, gc_K193, gc_K194, gc_K196, gc_K200]) (d := 3) (List.forall_mem_cons.mpr ⟨tk_KS_up (by decide) (gc_190 hU hxt), (List.forall_mem_cons.mpr ⟨tk_KS_up (by decide) (gc_192 hU hxt), (List.forall_mem_cons.mpr ⟨tk_KS_up (by decide) (gc_193 hU hxt), (List.forall_mem_cons.mpr ⟨tk_KS_up (by decide) (gc_194 hU hxt), (List.forall_mem_cons.mpr ⟨tk_KS_up (by decide) (gc_196 hU hxt), (List.forall_mem_cons.mpr ⟨tk_KS_up (by decide) (gc_200 hU hxt), (fun _ h => absurd h List.not_mem_nil)⟩)⟩)⟩)⟩)⟩)⟩) (Hs := gc_H201) (by decide +kernel) rfl
end GC14
end MH33_1
