section GC2
variable {l : Launch} {D : va_G} {xt : tk_XT} {ro : Nat → Nat → Int → Prop} {ads tw : List Nat}
/-- Reader.take -/
def gc_K8 : tk_K := (101, [(2, 0, 0, 0), (0, 1, 1, 0)], ([((-2147483648), 2147483647)], []), [6], [], ([(none, ([((-2147483648), 2147483647)], []), [6], [])], [(6, 2), (7, 0)]))
def gc_H8 : List tk_Hd := [(3, [(0, (2, 0, 0, 0)), (1, (0, 1, 1, 0)), (2, (0, 2, 1, 0))], ([((-2147483648), 2147483647), ((-1000), 24)], []), [6], [], [(0, 0, (0, 0, 0, 0)), (0, 1000, (0, 2, 1, 0)), (0, 0, (0, 0, 0, 0))])]
theorem gc_8 (hU : gc_U tw) (hxt : tk_xtok xt) : tk_KS l D gk_cl gk_tbl gk_xw xt gk_MN gk_P gc_TY ro (gc_X tw) ads tw 1 gc_K8 := tk_contract (hk := tk_hk0) tk_hk0_ok (gc_xs hU) hxt gk_rok [] 9000 0 3 (Ks := []) (d := 0) (fun _ h => absurd h List.not_mem_nil) (Hs := gc_H8) (by decide +kernel) rfl
/-- GooseIce.feed -/
def gc_K9 : tk_K := (134, [(2, 0, 0, 0), (0, 1, 1, 0), (0, 2, 1, 0), (0, 3, 1, 0), (0, 4, 1, 0), (0, 5, 1, 0)], ([((-2147483648), 2147483647), ((-2147483648), 2147483647), ((-2147483648), 2147483647), ((-2147483648), 2147483647), ((-2147483648), 2147483647)], []), [0], [], ([(some (0, 6, 1, 0), ([((-2147483648), 2147483647), ((-2147483648), 2147483647), ((-2147483648), 2147483647), ((-2147483648), 2147483647), ((-2147483648), 2147483647), ((-1), 900)], []), [0], [])], [(6, 2), (7, 0)]))
def gc_H9 : List tk_Hd := []
theorem gc_9 (hU : gc_U tw) (hxt : tk_xtok xt) : tk_KS l D gk_cl gk_tbl gk_xw xt gk_MN gk_P gc_TY ro (gc_X tw) ads tw 3 gc_K9 := tk_contract (hk := tk_hk0) tk_hk0_ok (gc_xs hU) hxt gk_rok [100] 9000 1 0 (Ks := [gc_K8]) (d := 1) (List.forall_mem_cons.mpr ⟨tk_KS_up (by decide) (gc_8 hU hxt), (fun _ h => absurd h List.not_mem_nil)⟩) (Hs := gc_H9) (by decide +kernel) rfl
/-- Reader.scanNumber -/
def gc_K10 : tk_K := (106, [(2, 0, 0, 0)], ([], []), [6], [(0, (0, 0, 0, 7), (0, 0, 0, (-1)))], ([(none, ([], []), [6], [])], [(6, 5), (6, 6), (6, 9)]))
def gc_H10 : List tk_Hd := [(5, [(0, (2, 0, 0, 0))], ([(0, 900)], []), [6], [(0, (0, 0, 0, 7), (0, 0, 0, (-1))), (0, (0, 0, 0, 5), (0, 1, 1, 0))], [(0, 0, (0, 0, 0, 0)), (1, 900, (0, 1, 1, 0)), (0, 0, (0, 0, 0, 0))])]
theorem gc_10 (hU : gc_U tw) (hxt : tk_xtok xt) : tk_KS l D gk_cl gk_tbl gk_xw xt gk_MN gk_P gc_TY ro (gc_X tw) ads tw 2 gc_K10 := tk_contract (hk := tk_hk0) tk_hk0_ok (gc_xs hU) hxt gk_rok [103] 9000 1 3 (Ks := []) (d := 0) (fun _ h => absurd h List.not_mem_nil) (Hs := gc_H10) (by decide +kernel) rfl
/-- Reader.scanWord -/
def gc_K11 : tk_K := (105, [(2, 0, 0, 0)], ([], []), [6], [(0, (0, 0, 0, 7), (0, 0, 0, (-1)))], ([(none, ([], []), [6], [(0, (0, 0, 0, 6), (0, 0, 0, 1))])], [(6, 5), (6, 6), (6, 7), (6, 8)]))
def gc_H11 : List tk_Hd := [(2, [(0, (2, 0, 0, 0)), (1, (1, 1, 1, 0))], ([((-9223372036854775808), 9223372036854775807), (0, 900)], []), [6], [(0, (0, 0, 0, 7), (0, 0, 0, (-1))), (0, (0, 0, 0, 5), (0, 2, 1, 0))], [(0, 1, (0, 0, 0, 0)), (1, 900, (0, 2, 1, 0)), (0, 0, (0, 0, 0, 0))]), (103, [(0, (2, 0, 0, 0)), (1, (1, 1, 1, 0)), (3, (0, 2, 1, 0))], ([((-9223372036854775808), 9223372036854775807), (0, 2147483647), (0, 900)], []), [6], [(0, (0, 0, 0, 5), (0, 3, 1, 0)), (0, (0, 0, 0, 6), (0, 0, 0, 1))], [(0, 0, (0, 0, 0, 0)), (1, 2147483647, (0, 2, 1, 0)), (0, 0, (0, 0, 0, 0))])]
theorem gc_11 (hU : gc_U tw) (hxt : tk_xtok xt) : tk_KS l D gk_cl gk_tbl gk_xw xt gk_MN gk_P gc_TY ro (gc_X tw) ads tw 2 gc_K11 := tk_contract (hk := tk_hk0) tk_hk0_ok (gc_xs hU) hxt gk_rok [103] 9000 1 3 (Ks := []) (d := 0) (fun _ h => absurd h List.not_mem_nil) (Hs := gc_H11) (by decide +kernel) rfl
/-- Reader.scan -/
def gc_K12 : tk_K := (104, [(2, 0, 0, 0)], ([], []), [6], [], ([(none, ([], []), [6], [])], [(6, 4), (6, 5), (6, 6), (6, 7), (6, 8), (6, 9)]))
def gc_H12 : List tk_Hd := [(0, [(0, (2, 0, 0, 0))], ([(1, 900), (1, 900)], []), [6], [(0, (0, 0, 0, 3), (0, 1, 1, 0)), (0, (0, 0, 0, 5), (0, 2, 1, 0))], [(0, 0, (0, 0, 0, 0)), (1, 900, (0, 2, 1, 0)), (0, 0, (0, 0, 0, 0))])]
theorem gc_12 (hU : gc_U tw) (hxt : tk_xtok xt) : tk_KS l D gk_cl gk_tbl gk_xw xt gk_MN gk_P gc_TY ro (gc_X tw) ads tw 4 gc_K12 := tk_contract (hk := tk_hk0) tk_hk0_ok (gc_xs hU) hxt gk_rok [103] 9000 1 3 (Ks := [gc_K10, gc_K11]) (d := 2) (List.forall_mem_cons.mpr ⟨tk_KS_up (by decide) (gc_10 hU hxt), (List.forall_mem_cons.mpr ⟨tk_KS_up (by decide) (gc_11 hU hxt), (fun _ h => absurd h List.not_mem_nil)⟩)⟩) (Hs := gc_H12) (by decide +kernel) rfl
/-- java/util/Arrays.fill -/
def gc_K13 : tk_K := (388, [(2, 0, 0, 0), (0, 0, 0, 0)], ([], []), [40], [], ([(none, ([], []), [40], [])], [(40, 0)]))
def gc_H13 : List tk_Hd := [(5, [(0, (2, 0, 0, 0)), (1, (0, 0, 0, 0)), (2, (0, 1, 1, 0)), (3, (0, 0, 0, 10))], ([(0, 10)], []), [40], [], [(0, 0, (0, 0, 0, 0)), (1, 10, (0, 1, 1, 0)), (0, 0, (0, 0, 0, 0))])]
theorem gc_13 (hU : gc_U tw) (hxt : tk_xtok xt) : tk_KS l D gk_cl gk_tbl gk_xw xt gk_MN gk_P gc_TY ro (gc_X tw) ads tw 1 gc_K13 := tk_contract (hk := tk_hk0) tk_hk0_ok (gc_xs hU) hxt gk_rok [] 9000 0 3 (Ks := []) (d := 0) (fun _ h => absurd h List.not_mem_nil) (Hs := gc_H13) (by decide +kernel) rfl
/-- java/util/Arrays.fill -/
def gc_K14 : tk_K := (388, [(2, 0, 0, 0), (0, 0, 0, 0)], ([], []), [41], [], ([(none, ([], []), [41], [])], [(41, 0)]))
def gc_H14 : List tk_Hd := [(5, [(0, (2, 0, 0, 0)), (1, (0, 0, 0, 0)), (2, (0, 1, 1, 0)), (3, (0, 0, 0, 10))], ([(0, 10)], []), [41], [], [(0, 0, (0, 0, 0, 0)), (1, 10, (0, 1, 1, 0)), (0, 0, (0, 0, 0, 0))])]
theorem gc_14 (hU : gc_U tw) (hxt : tk_xtok xt) : tk_KS l D gk_cl gk_tbl gk_xw xt gk_MN gk_P gc_TY ro (gc_X tw) ads tw 1 gc_K14 := tk_contract (hk := tk_hk0) tk_hk0_ok (gc_xs hU) hxt gk_rok [] 9000 0 3 (Ks := []) (d := 0) (fun _ h => absurd h List.not_mem_nil) (Hs := gc_H14) (by decide +kernel) rfl
/-- java/util/Arrays.fill -/
def gc_K15 : tk_K := (388, [(2, 0, 0, 0), (0, 0, 0, 0)], ([], []), [42], [], ([(none, ([], []), [42], [])], [(42, 0)]))
def gc_H15 : List tk_Hd := [(5, [(0, (2, 0, 0, 0)), (1, (0, 0, 0, 0)), (2, (0, 1, 1, 0)), (3, (0, 0, 0, 10))], ([(0, 10)], []), [42], [], [(0, 0, (0, 0, 0, 0)), (1, 10, (0, 1, 1, 0)), (0, 0, (0, 0, 0, 0))])]
theorem gc_15 (hU : gc_U tw) (hxt : tk_xtok xt) : tk_KS l D gk_cl gk_tbl gk_xw xt gk_MN gk_P gc_TY ro (gc_X tw) ads tw 1 gc_K15 := tk_contract (hk := tk_hk0) tk_hk0_ok (gc_xs hU) hxt gk_rok [] 9000 0 3 (Ks := []) (d := 0) (fun _ h => absurd h List.not_mem_nil) (Hs := gc_H15) (by decide +kernel) rfl
end GC2
