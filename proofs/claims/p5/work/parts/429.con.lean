section GC9
variable {l : Launch} {D : va_G} {xt : tk_XT} {ro : Nat → Nat → Int → Prop} {ads tw : List Nat}
/-- Crew.copyFrom -/
def gc_K319 : tk_K := (2, [(2, 0, 0, 0), (2, 1, 0, 0)], ([], []), [23, 76], [], ([(none, ([], []), [23, 76], [])], [(23, 7), (23, 8), (23, 9), (24, 0), (25, 0), (26, 0), (27, 0), (28, 0), (29, 0), (30, 0)]))
def gc_H319 : List tk_Hd := []
theorem gc_319 (hU : gc_U tw) (hxt : tk_xtok xt) : tk_KS l D gk_cl gk_tbl gk_xw xt gk_MN gk_P gc_TY ro (gc_X tw) ads tw 1 gc_K319 := tk_contract (hk := tk_hk0) tk_hk0_ok (gc_xs hU) hxt gk_rok [] 9000 0 0 (Ks := []) (d := 0) (fun _ h => absurd h List.not_mem_nil) (Hs := gc_H319) (by decide +kernel) rfl
/-- Lake.copyFrom -/
def gc_K320 : tk_K := (31, [(2, 0, 0, 0), (2, 1, 0, 0)], ([], []), [12, 65], [], ([(none, ([], []), [12, 65], [])], [(12, 8), (12, 9), (12, 10), (12, 11), (12, 12), (12, 13), (13, 0), (14, 0), (15, 0), (16, 0), (18, 4), (18, 5), (19, 0), (20, 0), (21, 0), (22, 0), (23, 7), (23, 8), (23, 9), (24, 0), (25, 0), (26, 0), (27, 0), (28, 0), (29, 0), (30, 0)]))
def gc_H320 : List tk_Hd := []
theorem gc_320 (hU : gc_U tw) (hxt : tk_xtok xt) : tk_KS l D gk_cl gk_tbl gk_xw xt gk_MN gk_P gc_TY ro (gc_X tw) ads tw 2 gc_K320 := tk_contract (hk := tk_hk0) tk_hk0_ok (gc_xs hU) hxt gk_rok [] 9000 0 0 (Ks := [gc_K318, gc_K319]) (d := 1) (List.forall_mem_cons.mpr ⟨tk_KS_up (by decide) (gc_318 hU hxt), (List.forall_mem_cons.mpr ⟨tk_KS_up (by decide) (gc_319 hU hxt), (fun _ h => absurd h List.not_mem_nil)⟩)⟩) (Hs := gc_H320) (by decide +kernel) rfl
end GC9
