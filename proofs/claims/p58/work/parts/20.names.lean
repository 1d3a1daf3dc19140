/-! ===== the program: classes ===== -/
def gk_R0 : String := "GooseIce$Crew"
def gk_T0 : u_T := fun k => match k with
  | 0 => ("GooseIce$Crew", "names", "[J", true)
  | 1 => ("GooseIce$Crew", "weight", "[I", true)
  | 2 => ("GooseIce$Crew", "at", "[I", true)
  | 3 => ("GooseIce$Crew", "made", "[I", true)
  | 4 => ("GooseIce$Crew", "left", "[I", true)
  | 5 => ("GooseIce$Crew", "head", "[I", true)
  | 6 => ("GooseIce$Crew", "route", "[I", true)
  | 7 => ("GooseIce$Crew", "count", "I", false)
  | 8 => ("GooseIce$Crew", "wet", "I", false)
  | _ => ("GooseIce$Crew", "routed", "I", false)
def gk_R1 : String := "GooseIce$Days"
def gk_T1 : u_T := fun k => match k with
  | 0 => ("GooseIce$Days", "cases", "[J", true)
  | 1 => ("GooseIce$Days", "later", "[J", true)
  | _ => ("GooseIce$Days", "middle", "I", false)
def gk_R2 : String := "GooseIce$Ice"
def gk_T2 : u_T := fun k => match k with
  | 0 => ("GooseIce$Ice", "borne", "[I", true)
  | 1 => ("GooseIce$Ice", "most", "[I", true)
  | 2 => ("GooseIce$Ice", "recent", "[I", true)
  | 3 => ("GooseIce$Ice", "came", "[I", true)
  | 4 => ("GooseIce$Ice", "waiting", "I", false)
  | _ => ("GooseIce$Ice", "broken", "I", false)
def gk_R3 : String := "GooseIce$Lake"
def gk_T3 : u_T := fun k => match k with
  | 0 => ("GooseIce$Lake", "names", "[J", true)
  | 1 => ("GooseIce$Lake", "ways", "[I", true)
  | 2 => ("GooseIce$Lake", "besides", "[I", true)
  | 3 => ("GooseIce$Lake", "inside", "[I", true)
  | 4 => ("GooseIce$Lake", "loads", "[I", true)
  | 5 => ("GooseIce$Lake", "sheet", "LGooseIce$Ice;", true)
  | 6 => ("GooseIce$Lake", "crew", "LGooseIce$Crew;", true)
  | 7 => ("GooseIce$Lake", "tales", "LGooseIce$Tales;", true)
  | 8 => ("GooseIce$Lake", "cells", "I", false)
  | 9 => ("GooseIce$Lake", "shores", "I", false)
  | 10 => ("GooseIce$Lake", "worse", "I", false)
  | 11 => ("GooseIce$Lake", "hour", "I", false)
  | 12 => ("GooseIce$Lake", "better", "I", false)
  | _ => ("GooseIce$Lake", "time", "I", false)
def gk_R4 : String := "GooseIce$LakeText"
def gk_T4 : u_T := fun k => match k with
  | 0 => ("GooseIce$LakeText", "reader", "LGooseIce$Reader;", true)
  | _ => ("GooseIce$LakeText", "settled", "I", false)
def gk_R5 : String := "GooseIce$Life"
def gk_T5 : u_T := fun k => match k with
  | 0 => ("GooseIce$Life", "paths", "LGooseIce$Paths;", true)
  | 1 => ("GooseIce$Life", "loopRow", "[I", true)
  | 2 => ("GooseIce$Life", "loopLeft", "[I", true)
  | 3 => ("GooseIce$Life", "depth", "I", false)
  | 4 => ("GooseIce$Life", "state", "I", false)
  | 5 => ("GooseIce$Life", "drew", "Z", false)
  | 6 => ("GooseIce$Life", "missed", "I", false)
  | 7 => ("GooseIce$Life", "walked", "I", false)
  | 8 => ("GooseIce$Life", "sends", "I", false)
  | 9 => ("GooseIce$Life", "broke", "I", false)
  | _ => ("GooseIce$Life", "left", "I", false)
def gk_R6 : String := "GooseIce$Paths"
def gk_T6 : u_T := fun k => match k with
  | 0 => ("GooseIce$Paths", "found", "[I", true)
  | 1 => ("GooseIce$Paths", "layers", "[I", true)
  | 2 => ("GooseIce$Paths", "spares", "[I", true)
  | 3 => ("GooseIce$Paths", "subsets", "[I", true)
  | 4 => ("GooseIce$Paths", "length", "I", false)
  | _ => ("GooseIce$Paths", "least", "I", false)
def gk_R7 : String := "GooseIce$Queue"
def gk_T7 : u_T := fun k => match k with
  | 0 => ("GooseIce$Queue", "levels", "[LGooseIce$Lake;", true)
  | 1 => ("GooseIce$Queue", "members", "[I", true)
  | 2 => ("GooseIce$Queue", "order", "[I", true)
  | 3 => ("GooseIce$Queue", "gaps", "[I", true)
  | 4 => ("GooseIce$Queue", "bestOrder", "[I", true)
  | 5 => ("GooseIce$Queue", "bestGaps", "[I", true)
  | 6 => ("GooseIce$Queue", "row", "[I", true)
  | 7 => ("GooseIce$Queue", "length", "I", false)
  | 8 => ("GooseIce$Queue", "best", "I", false)
  | 9 => ("GooseIce$Queue", "many", "I", false)
  | _ => ("GooseIce$Queue", "cells", "I", false)
def gk_R8 : String := "GooseIce$Reader"
def gk_T8 : u_T := fun k => match k with
  | 0 => ("GooseIce$Reader", "tape", "[B", true)
  | 1 => ("GooseIce$Reader", "reserved", "[J", true)
  | 2 => ("GooseIce$Reader", "fed", "I", false)
  | 3 => ("GooseIce$Reader", "length", "I", false)
  | 4 => ("GooseIce$Reader", "place", "I", false)
  | 5 => ("GooseIce$Reader", "next", "I", false)
  | 6 => ("GooseIce$Reader", "kind", "I", false)
  | 7 => ("GooseIce$Reader", "word", "I", false)
  | 8 => ("GooseIce$Reader", "name", "J", false)
  | 9 => ("GooseIce$Reader", "number", "I", false)
  | 10 => ("GooseIce$Reader", "fault", "I", false)
  | _ => ("GooseIce$Reader", "faultPlace", "I", false)
def gk_R9 : String := "GooseIce$Tales"
def gk_T9 : u_T := fun k => match k with
  | 0 => ("GooseIce$Tales", "op", "[I", true)
  | 1 => ("GooseIce$Tales", "test", "[I", true)
  | 2 => ("GooseIce$Tales", "a", "[I", true)
  | 3 => ("GooseIce$Tales", "b", "[I", true)
  | 4 => ("GooseIce$Tales", "c", "[I", true)
  | 5 => ("GooseIce$Tales", "past", "[I", true)
  | 6 => ("GooseIce$Tales", "count", "I", false)
  | _ => ("GooseIce$Tales", "there", "Z", false)
def gk_R10 : String := "GooseIce$TalesText"
def gk_T10 : u_T := fun k => match k with
  | 0 => ("GooseIce$TalesText", "reader", "LGooseIce$Reader;", true)
  | 1 => ("GooseIce$TalesText", "open", "[I", true)
  | _ => ("GooseIce$TalesText", "depth", "I", false)
def gk_R11 : String := "GooseIce"
def gk_T11 : u_T := fun k => match k with
  | 0 => ("GooseIce", "status", "I", false)
  | 1 => ("GooseIce", "top", "J", false)
  | 2 => ("GooseIce", "bottom", "J", false)
  | 3 => ("GooseIce", "rows", "[[J", true)
  | 4 => ("GooseIce", "sorts", "[I", true)
  | 5 => ("GooseIce", "sizes", "[I", true)
  | 6 => ("GooseIce", "path", "[I", true)
  | 7 => ("GooseIce", "reader", "LGooseIce$Reader;", true)
  | 8 => ("GooseIce", "lakeText", "LGooseIce$LakeText;", true)
  | 9 => ("GooseIce", "talesText", "LGooseIce$TalesText;", true)
  | 10 => ("GooseIce", "lake", "LGooseIce$Lake;", true)
  | 11 => ("GooseIce", "draft", "LGooseIce$Lake;", true)
  | 12 => ("GooseIce", "marks", "[LGooseIce$Lake;", true)
  | 13 => ("GooseIce", "markCount", "I", false)
  | 14 => ("GooseIce", "paths", "LGooseIce$Paths;", true)
  | 15 => ("GooseIce", "line", "LGooseIce$Queue;", true)
  | 16 => ("GooseIce", "weather", "LGooseIce$Days;", true)
  | 17 => ("GooseIce", "life", "LGooseIce$Life;", true)
  | 18 => ("GooseIce", "livedRow", "[I", true)
  | _ => ("GooseIce", "everLived", "Z", false)
def gk_R12 : String := "GooseIceModel"
def gk_T12 : u_T := fun k => match k with
  | 0 => ("GooseIceModel", "at", "[I", true)
  | 1 => ("GooseIceModel", "names", "[J", true)
  | 2 => ("GooseIceModel", "status", "I", false)
  | 3 => ("GooseIceModel", "top", "J", false)
  | 4 => ("GooseIceModel", "bottom", "J", false)
  | 5 => ("GooseIceModel", "sort", "[I", true)
  | 6 => ("GooseIceModel", "trayMany", "[I", true)
  | 7 => ("GooseIceModel", "trays", "[J", true)
  | 8 => ("GooseIceModel", "tape", "[B", true)
  | 9 => ("GooseIceModel", "text", "[B", true)
  | 10 => ("GooseIceModel", "taped", "I", false)
  | 11 => ("GooseIceModel", "size", "I", false)
  | 12 => ("GooseIceModel", "token", "I", false)
  | 13 => ("GooseIceModel", "from", "I", false)
  | 14 => ("GooseIceModel", "end", "I", false)
  | 15 => ("GooseIceModel", "value", "I", false)
  | 16 => ("GooseIceModel", "faultKind", "I", false)
  | 17 => ("GooseIceModel", "faultPlace", "I", false)
  | 18 => ("GooseIceModel", "faults", "I", false)
  | 19 => ("GooseIceModel", "seen", "I", false)
  | 20 => ("GooseIceModel", "told0", "I", false)
  | 21 => ("GooseIceModel", "opened", "[I", true)
  | 22 => ("GooseIceModel", "depth", "I", false)
  | 23 => ("GooseIceModel", "counted", "I", false)
  | 24 => ("GooseIceModel", "far0", "[I", true)
  | 25 => ("GooseIceModel", "least0", "I", false)
  | 26 => ("GooseIceModel", "turn", "[I", true)
  | 27 => ("GooseIceModel", "gap", "[I", true)
  | 28 => ("GooseIceModel", "toldTurn", "[I", true)
  | 29 => ("GooseIceModel", "toldGap", "[I", true)
  | 30 => ("GooseIceModel", "toldMany", "I", false)
  | 31 => ("GooseIceModel", "groupsOf", "[I", true)
  | 32 => ("GooseIceModel", "trials0", "[I", true)
  | 33 => ("GooseIceModel", "row", "[I", true)
  | 34 => ("GooseIceModel", "ways", "[J", true)
  | 35 => ("GooseIceModel", "nextWays", "[J", true)
  | 36 => ("GooseIceModel", "drawn", "I", false)
  | 37 => ("GooseIceModel", "ranSteps", "I", false)
  | 38 => ("GooseIceModel", "loops", "[I", true)
  | 39 => ("GooseIceModel", "ran", "[I", true)
  | 40 => ("GooseIceModel", "told1", "[I", true)
  | 41 => ("GooseIceModel", "isTold", "Z", false)
  | _ => ("GooseIceModel", "marks", "I", false)
def gk_cl : List vw_C := [(gk_R0, gk_T0, 10), (gk_R1, gk_T1, 3), (gk_R2, gk_T2, 6), (gk_R3, gk_T3, 14), (gk_R4, gk_T4, 2), (gk_R5, gk_T5, 11), (gk_R6, gk_T6, 6), (gk_R7, gk_T7, 11), (gk_R8, gk_T8, 12), (gk_R9, gk_T9, 8), (gk_R10, gk_T10, 3), (gk_R11, gk_T11, 20), (gk_R12, gk_T12, 43)]
def gk_fty : rk_F := [[(.array .long, true), (.array .int, true), (.array .int, true), (.array .int, true), (.array .int, true), (.array .int, true), (.array .int, true), (.int, false), (.int, false), (.int, false)], [(.array .long, true), (.array .long, true), (.int, false)], [(.array .int, true), (.array .int, true), (.array .int, true), (.array .int, true), (.int, false), (.int, false)], [(.array .long, true), (.array .int, true), (.array .int, true), (.array .int, true), (.array .int, true), (.object "GooseIce$Ice", true), (.object "GooseIce$Crew", true), (.object "GooseIce$Tales", true), (.int, false), (.int, false), (.int, false), (.int, false), (.int, false), (.int, false)], [(.object "GooseIce$Reader", true), (.int, false)], [(.object "GooseIce$Paths", true), (.array .int, true), (.array .int, true), (.int, false), (.int, false), (.boolean, false), (.int, false), (.int, false), (.int, false), (.int, false), (.int, false)], [(.array .int, true), (.array .int, true), (.array .int, true), (.array .int, true), (.int, false), (.int, false)], [(.array (.object "GooseIce$Lake"), true), (.array .int, true), (.array .int, true), (.array .int, true), (.array .int, true), (.array .int, true), (.array .int, true), (.int, false), (.int, false), (.int, false), (.int, false)], [(.array .byte, true), (.array .long, true), (.int, false), (.int, false), (.int, false), (.int, false), (.int, false), (.int, false), (.long, false), (.int, false), (.int, false), (.int, false)], [(.array .int, true), (.array .int, true), (.array .int, true), (.array .int, true), (.array .int, true), (.array .int, true), (.int, false), (.boolean, false)], [(.object "GooseIce$Reader", true), (.array .int, true), (.int, false)], [(.int, false), (.long, false), (.long, false), (.array (.array .long), true), (.array .int, true), (.array .int, true), (.array .int, true), (.object "GooseIce$Reader", true), (.object "GooseIce$LakeText", true), (.object "GooseIce$TalesText", true), (.object "GooseIce$Lake", true), (.object "GooseIce$Lake", true), (.array (.object "GooseIce$Lake"), true), (.int, false), (.object "GooseIce$Paths", true), (.object "GooseIce$Queue", true), (.object "GooseIce$Days", true), (.object "GooseIce$Life", true), (.array .int, true), (.boolean, false)], [(.array .int, true), (.array .long, true), (.int, false), (.long, false), (.long, false), (.array .int, true), (.array .int, true), (.array .long, true), (.array .byte, true), (.array .byte, true), (.int, false), (.int, false), (.int, false), (.int, false), (.int, false), (.int, false), (.int, false), (.int, false), (.int, false), (.int, false), (.int, false), (.array .int, true), (.int, false), (.int, false), (.array .int, true), (.int, false), (.array .int, true), (.array .int, true), (.array .int, true), (.array .int, true), (.int, false), (.array .int, true), (.array .int, true), (.array .int, true), (.array .long, true), (.array .long, true), (.int, false), (.int, false), (.array .int, true), (.array .int, true), (.array .int, true), (.boolean, false), (.int, false)]]
def gk_cln : List String := ["GooseIce$Crew", "GooseIce$Days", "GooseIce$Ice", "GooseIce$Lake", "GooseIce$LakeText", "GooseIce$Life", "GooseIce$Paths", "GooseIce$Queue", "GooseIce$Reader", "GooseIce$Tales", "GooseIce$TalesText", "GooseIce", "GooseIceModel"]
def rk_isx : Jvm.Cond → Bool
  | .fieldLinkNest _ _ _ _ _ _ => true
  | .methodLinkNest _ _ _ _ => true
  | .arrayOver (.object _) => true
  | .arrayOver (.array _) => true
  | _ => false
def gk_tbl : List Jvm.Cond := lw_tbl.filter goodWord
def gk_xw : List Jvm.Cond := lw_tbl.filter rk_isx
/-- a word by its number, looked up in its stretch of the table -/
def rk_get (i : Nat) : Option Jvm.Cond := if i < 220 then (k2_sels lw_privs)[i]? else (rk_ch ((i - 220) / 240))[(i - 220) % 240]?
theorem rk_get_in {i : Nat} {x : Jvm.Cond} (h : rk_get i = some x) : x ∈ lw_tbl := by
  unfold rk_get at h
  show x ∈ k2_sels lw_privs ++ tables_1
  split at h
  · exact List.mem_append_left _ (List.mem_of_getElem? h)
  · exact List.mem_append_right _ (rk_ch_in _ _ (List.mem_of_getElem? h))
theorem rk_mt {x : Jvm.Cond} (i : Nat) (h : rk_get i = some x) (hg : goodWord x = true) : x ∈ gk_tbl := List.mem_filter.mpr ⟨rk_get_in h, hg⟩
theorem rk_mx {x : Jvm.Cond} (i : Nat) (h : rk_get i = some x) (hg : rk_isx x = true) : x ∈ gk_xw := List.mem_filter.mpr ⟨rk_get_in h, hg⟩
theorem gk_good : ∀ x ∈ gk_tbl, goodWord x = true := fun x h => (List.mem_filter.mp h).2
theorem gk_xok : rk_xok gk_xw := by
  intro x h
  have h2 := (List.mem_filter.mp h).2
  unfold rk_isx at h2
  split at h2
  · exact Or.inl ⟨_, _, _, _, _, _, rfl⟩
  · exact Or.inr (Or.inl ⟨_, _, _, _, rfl⟩)
  · exact Or.inr (Or.inr (Or.inl ⟨_, rfl⟩))
  · exact Or.inr (Or.inr (Or.inr ⟨_, rfl⟩))
  · cases h2
theorem rk_sub {big ws : List Jvm.Cond} (ps : List Nat) (h : ws = ps.filterMap (fun i => big[i]?)) : ∀ x ∈ ws, x ∈ big := by
  intro x hx
  rw [h] at hx
  obtain ⟨i, -, hi⟩ := List.mem_filterMap.mp hx
  exact List.mem_of_getElem? hi
theorem gk_u0 : ∀ x ∈ u_ws gk_R0 gk_T0 10, x ∈ gk_tbl := fun x h => List.mem_filter.mpr ⟨rk_sub [465, 467, 469, 471, 473, 475, 477, 479, 481, 483] (by decide +kernel) x h, by
  obtain ⟨k, -, rfl⟩ := List.mem_map.mp h
  unfold u_lay
  split <;> rfl⟩
theorem gk_n0 : ∀ a, a < 10 → ∀ b, b < 10 → a ≠ b → (gk_T0 a).2.1 ≠ (gk_T0 b).2.1 := by decide +kernel
theorem gk_y0 : ∀ (k : Nat) (t : FieldType × Bool), (gk_fty.getD 0 [])[k]? = some t → parseFieldDescriptor (gk_T0 k).2.2.1 = some t.1 ∧ (gk_T0 k).2.2.2 = t.2 := by
  intro k t h
  have hk : k < 10 := (List.getElem?_eq_some_iff.mp h).1
  have hall : (List.range 10).all (fun k => match (gk_fty.getD 0 [])[k]? with | some t => decide (parseFieldDescriptor (gk_T0 k).2.2.1 = some t.1 ∧ (gk_T0 k).2.2.2 = t.2) | none => true) = true := by decide +kernel
  have h1 := List.all_eq_true.mp hall k (List.mem_range.mpr hk)
  rw [h] at h1
  exact of_decide_eq_true h1
theorem gk_u1 : ∀ x ∈ u_ws gk_R1 gk_T1 3, x ∈ gk_tbl := fun x h => List.mem_filter.mpr ⟨rk_sub [692, 694, 696] (by decide +kernel) x h, by
  obtain ⟨k, -, rfl⟩ := List.mem_map.mp h
  unfold u_lay
  split <;> rfl⟩
theorem gk_n1 : ∀ a, a < 3 → ∀ b, b < 3 → a ≠ b → (gk_T1 a).2.1 ≠ (gk_T1 b).2.1 := by decide +kernel
theorem gk_y1 : ∀ (k : Nat) (t : FieldType × Bool), (gk_fty.getD 1 [])[k]? = some t → parseFieldDescriptor (gk_T1 k).2.2.1 = some t.1 ∧ (gk_T1 k).2.2.2 = t.2 := by
  intro k t h
  have hk : k < 3 := (List.getElem?_eq_some_iff.mp h).1
  have hall : (List.range 3).all (fun k => match (gk_fty.getD 1 [])[k]? with | some t => decide (parseFieldDescriptor (gk_T1 k).2.2.1 = some t.1 ∧ (gk_T1 k).2.2.2 = t.2) | none => true) = true := by decide +kernel
  have h1 := List.all_eq_true.mp hall k (List.mem_range.mpr hk)
  rw [h] at h1
  exact of_decide_eq_true h1
theorem gk_u2 : ∀ x ∈ u_ws gk_R2 gk_T2 6, x ∈ gk_tbl := fun x h => List.mem_filter.mpr ⟨rk_sub [416, 418, 420, 422, 424, 426] (by decide +kernel) x h, by
  obtain ⟨k, -, rfl⟩ := List.mem_map.mp h
  unfold u_lay
  split <;> rfl⟩
theorem gk_n2 : ∀ a, a < 6 → ∀ b, b < 6 → a ≠ b → (gk_T2 a).2.1 ≠ (gk_T2 b).2.1 := by decide +kernel
theorem gk_y2 : ∀ (k : Nat) (t : FieldType × Bool), (gk_fty.getD 2 [])[k]? = some t → parseFieldDescriptor (gk_T2 k).2.2.1 = some t.1 ∧ (gk_T2 k).2.2.2 = t.2 := by
  intro k t h
  have hk : k < 6 := (List.getElem?_eq_some_iff.mp h).1
  have hall : (List.range 6).all (fun k => match (gk_fty.getD 2 [])[k]? with | some t => decide (parseFieldDescriptor (gk_T2 k).2.2.1 = some t.1 ∧ (gk_T2 k).2.2.2 = t.2) | none => true) = true := by decide +kernel
  have h1 := List.all_eq_true.mp hall k (List.mem_range.mpr hk)
  rw [h] at h1
  exact of_decide_eq_true h1
theorem gk_u3 : ∀ x ∈ u_ws gk_R3 gk_T3 14, x ∈ gk_tbl := fun x h => List.mem_filter.mpr ⟨rk_sub [577, 579, 581, 583, 585, 587, 589, 591, 593, 595, 597, 599, 601, 603] (by decide +kernel) x h, by
  obtain ⟨k, -, rfl⟩ := List.mem_map.mp h
  unfold u_lay
  split <;> rfl⟩
theorem gk_n3 : ∀ a, a < 14 → ∀ b, b < 14 → a ≠ b → (gk_T3 a).2.1 ≠ (gk_T3 b).2.1 := by decide +kernel
theorem gk_y3 : ∀ (k : Nat) (t : FieldType × Bool), (gk_fty.getD 3 [])[k]? = some t → parseFieldDescriptor (gk_T3 k).2.2.1 = some t.1 ∧ (gk_T3 k).2.2.2 = t.2 := by
  intro k t h
  have hk : k < 14 := (List.getElem?_eq_some_iff.mp h).1
  have hall : (List.range 14).all (fun k => match (gk_fty.getD 3 [])[k]? with | some t => decide (parseFieldDescriptor (gk_T3 k).2.2.1 = some t.1 ∧ (gk_T3 k).2.2.2 = t.2) | none => true) = true := by decide +kernel
  have h1 := List.all_eq_true.mp hall k (List.mem_range.mpr hk)
  rw [h] at h1
  exact of_decide_eq_true h1
theorem gk_u4 : ∀ x ∈ u_ws gk_R4 gk_T4 2, x ∈ gk_tbl := fun x h => List.mem_filter.mpr ⟨rk_sub [366, 368] (by decide +kernel) x h, by
  obtain ⟨k, -, rfl⟩ := List.mem_map.mp h
  unfold u_lay
  split <;> rfl⟩
theorem gk_n4 : ∀ a, a < 2 → ∀ b, b < 2 → a ≠ b → (gk_T4 a).2.1 ≠ (gk_T4 b).2.1 := by decide +kernel
theorem gk_y4 : ∀ (k : Nat) (t : FieldType × Bool), (gk_fty.getD 4 [])[k]? = some t → parseFieldDescriptor (gk_T4 k).2.2.1 = some t.1 ∧ (gk_T4 k).2.2.2 = t.2 := by
  intro k t h
  have hk : k < 2 := (List.getElem?_eq_some_iff.mp h).1
  have hall : (List.range 2).all (fun k => match (gk_fty.getD 4 [])[k]? with | some t => decide (parseFieldDescriptor (gk_T4 k).2.2.1 = some t.1 ∧ (gk_T4 k).2.2.2 = t.2) | none => true) = true := by decide +kernel
  have h1 := List.all_eq_true.mp hall k (List.mem_range.mpr hk)
  rw [h] at h1
  exact of_decide_eq_true h1
theorem gk_u5 : ∀ x ∈ u_ws gk_R5 gk_T5 11, x ∈ gk_tbl := fun x h => List.mem_filter.mpr ⟨rk_sub [722, 724, 726, 728, 730, 732, 734, 736, 738, 740, 742] (by decide +kernel) x h, by
  obtain ⟨k, -, rfl⟩ := List.mem_map.mp h
  unfold u_lay
  split <;> rfl⟩
theorem gk_n5 : ∀ a, a < 11 → ∀ b, b < 11 → a ≠ b → (gk_T5 a).2.1 ≠ (gk_T5 b).2.1 := by decide +kernel
theorem gk_y5 : ∀ (k : Nat) (t : FieldType × Bool), (gk_fty.getD 5 [])[k]? = some t → parseFieldDescriptor (gk_T5 k).2.2.1 = some t.1 ∧ (gk_T5 k).2.2.2 = t.2 := by
  intro k t h
  have hk : k < 11 := (List.getElem?_eq_some_iff.mp h).1
  have hall : (List.range 11).all (fun k => match (gk_fty.getD 5 [])[k]? with | some t => decide (parseFieldDescriptor (gk_T5 k).2.2.1 = some t.1 ∧ (gk_T5 k).2.2.2 = t.2) | none => true) = true := by decide +kernel
  have h1 := List.all_eq_true.mp hall k (List.mem_range.mpr hk)
  rw [h] at h1
  exact of_decide_eq_true h1
theorem gk_u6 : ∀ x ∈ u_ws gk_R6 gk_T6 6, x ∈ gk_tbl := fun x h => List.mem_filter.mpr ⟨rk_sub [625, 627, 629, 631, 633, 635] (by decide +kernel) x h, by
  obtain ⟨k, -, rfl⟩ := List.mem_map.mp h
  unfold u_lay
  split <;> rfl⟩
theorem gk_n6 : ∀ a, a < 6 → ∀ b, b < 6 → a ≠ b → (gk_T6 a).2.1 ≠ (gk_T6 b).2.1 := by decide +kernel
theorem gk_y6 : ∀ (k : Nat) (t : FieldType × Bool), (gk_fty.getD 6 [])[k]? = some t → parseFieldDescriptor (gk_T6 k).2.2.1 = some t.1 ∧ (gk_T6 k).2.2.2 = t.2 := by
  intro k t h
  have hk : k < 6 := (List.getElem?_eq_some_iff.mp h).1
  have hall : (List.range 6).all (fun k => match (gk_fty.getD 6 [])[k]? with | some t => decide (parseFieldDescriptor (gk_T6 k).2.2.1 = some t.1 ∧ (gk_T6 k).2.2.2 = t.2) | none => true) = true := by decide +kernel
  have h1 := List.all_eq_true.mp hall k (List.mem_range.mpr hk)
  rw [h] at h1
  exact of_decide_eq_true h1
theorem gk_u7 : ∀ x ∈ u_ws gk_R7 gk_T7 11, x ∈ gk_tbl := fun x h => List.mem_filter.mpr ⟨rk_sub [660, 662, 664, 666, 668, 670, 672, 674, 676, 678, 680] (by decide +kernel) x h, by
  obtain ⟨k, -, rfl⟩ := List.mem_map.mp h
  unfold u_lay
  split <;> rfl⟩
theorem gk_n7 : ∀ a, a < 11 → ∀ b, b < 11 → a ≠ b → (gk_T7 a).2.1 ≠ (gk_T7 b).2.1 := by decide +kernel
theorem gk_y7 : ∀ (k : Nat) (t : FieldType × Bool), (gk_fty.getD 7 [])[k]? = some t → parseFieldDescriptor (gk_T7 k).2.2.1 = some t.1 ∧ (gk_T7 k).2.2.2 = t.2 := by
  intro k t h
  have hk : k < 11 := (List.getElem?_eq_some_iff.mp h).1
  have hall : (List.range 11).all (fun k => match (gk_fty.getD 7 [])[k]? with | some t => decide (parseFieldDescriptor (gk_T7 k).2.2.1 = some t.1 ∧ (gk_T7 k).2.2.2 = t.2) | none => true) = true := by decide +kernel
  have h1 := List.all_eq_true.mp hall k (List.mem_range.mpr hk)
  rw [h] at h1
  exact of_decide_eq_true h1
theorem gk_u8 : ∀ x ∈ u_ws gk_R8 gk_T8 12, x ∈ gk_tbl := fun x h => List.mem_filter.mpr ⟨rk_sub [330, 332, 334, 336, 338, 340, 342, 344, 346, 348, 350, 352] (by decide +kernel) x h, by
  obtain ⟨k, -, rfl⟩ := List.mem_map.mp h
  unfold u_lay
  split <;> rfl⟩
theorem gk_n8 : ∀ a, a < 12 → ∀ b, b < 12 → a ≠ b → (gk_T8 a).2.1 ≠ (gk_T8 b).2.1 := by decide +kernel
theorem gk_y8 : ∀ (k : Nat) (t : FieldType × Bool), (gk_fty.getD 8 [])[k]? = some t → parseFieldDescriptor (gk_T8 k).2.2.1 = some t.1 ∧ (gk_T8 k).2.2.2 = t.2 := by
  intro k t h
  have hk : k < 12 := (List.getElem?_eq_some_iff.mp h).1
  have hall : (List.range 12).all (fun k => match (gk_fty.getD 8 [])[k]? with | some t => decide (parseFieldDescriptor (gk_T8 k).2.2.1 = some t.1 ∧ (gk_T8 k).2.2.2 = t.2) | none => true) = true := by decide +kernel
  have h1 := List.all_eq_true.mp hall k (List.mem_range.mpr hk)
  rw [h] at h1
  exact of_decide_eq_true h1
theorem gk_u9 : ∀ x ∈ u_ws gk_R9 gk_T9 8, x ∈ gk_tbl := fun x h => List.mem_filter.mpr ⟨rk_sub [517, 519, 521, 523, 525, 527, 529, 531] (by decide +kernel) x h, by
  obtain ⟨k, -, rfl⟩ := List.mem_map.mp h
  unfold u_lay
  split <;> rfl⟩
theorem gk_n9 : ∀ a, a < 8 → ∀ b, b < 8 → a ≠ b → (gk_T9 a).2.1 ≠ (gk_T9 b).2.1 := by decide +kernel
theorem gk_y9 : ∀ (k : Nat) (t : FieldType × Bool), (gk_fty.getD 9 [])[k]? = some t → parseFieldDescriptor (gk_T9 k).2.2.1 = some t.1 ∧ (gk_T9 k).2.2.2 = t.2 := by
  intro k t h
  have hk : k < 8 := (List.getElem?_eq_some_iff.mp h).1
  have hall : (List.range 8).all (fun k => match (gk_fty.getD 9 [])[k]? with | some t => decide (parseFieldDescriptor (gk_T9 k).2.2.1 = some t.1 ∧ (gk_T9 k).2.2.2 = t.2) | none => true) = true := by decide +kernel
  have h1 := List.all_eq_true.mp hall k (List.mem_range.mpr hk)
  rw [h] at h1
  exact of_decide_eq_true h1
theorem gk_u10 : ∀ x ∈ u_ws gk_R10 gk_T10 3, x ∈ gk_tbl := fun x h => List.mem_filter.mpr ⟨rk_sub [380, 382, 384] (by decide +kernel) x h, by
  obtain ⟨k, -, rfl⟩ := List.mem_map.mp h
  unfold u_lay
  split <;> rfl⟩
theorem gk_n10 : ∀ a, a < 3 → ∀ b, b < 3 → a ≠ b → (gk_T10 a).2.1 ≠ (gk_T10 b).2.1 := by decide +kernel
theorem gk_y10 : ∀ (k : Nat) (t : FieldType × Bool), (gk_fty.getD 10 [])[k]? = some t → parseFieldDescriptor (gk_T10 k).2.2.1 = some t.1 ∧ (gk_T10 k).2.2.2 = t.2 := by
  intro k t h
  have hk : k < 3 := (List.getElem?_eq_some_iff.mp h).1
  have hall : (List.range 3).all (fun k => match (gk_fty.getD 10 [])[k]? with | some t => decide (parseFieldDescriptor (gk_T10 k).2.2.1 = some t.1 ∧ (gk_T10 k).2.2.2 = t.2) | none => true) = true := by decide +kernel
  have h1 := List.all_eq_true.mp hall k (List.mem_range.mpr hk)
  rw [h] at h1
  exact of_decide_eq_true h1
theorem gk_u11 : ∀ x ∈ u_ws gk_R11 gk_T11 20, x ∈ gk_tbl := fun x h => List.mem_filter.mpr ⟨rk_sub [768, 770, 772, 774, 776, 778, 780, 782, 784, 786, 788, 790, 792, 794, 796, 798, 800, 802, 804, 806] (by decide +kernel) x h, by
  obtain ⟨k, -, rfl⟩ := List.mem_map.mp h
  unfold u_lay
  split <;> rfl⟩
theorem gk_n11 : ∀ a, a < 20 → ∀ b, b < 20 → a ≠ b → (gk_T11 a).2.1 ≠ (gk_T11 b).2.1 := by decide +kernel
theorem gk_y11 : ∀ (k : Nat) (t : FieldType × Bool), (gk_fty.getD 11 [])[k]? = some t → parseFieldDescriptor (gk_T11 k).2.2.1 = some t.1 ∧ (gk_T11 k).2.2.2 = t.2 := by
  intro k t h
  have hk : k < 20 := (List.getElem?_eq_some_iff.mp h).1
  have hall : (List.range 20).all (fun k => match (gk_fty.getD 11 [])[k]? with | some t => decide (parseFieldDescriptor (gk_T11 k).2.2.1 = some t.1 ∧ (gk_T11 k).2.2.2 = t.2) | none => true) = true := by decide +kernel
  have h1 := List.all_eq_true.mp hall k (List.mem_range.mpr hk)
  rw [h] at h1
  exact of_decide_eq_true h1
theorem gk_u12 : ∀ x ∈ u_ws gk_R12 gk_T12 43, x ∈ gk_tbl := fun x h => List.mem_filter.mpr ⟨rk_sub [1702, 1704, 1706, 1708, 1710, 1712, 1714, 1716, 1718, 1720, 1722, 1724, 1726, 1728, 1730, 1732, 1734, 1736, 1738, 1740, 1742, 1744, 1746, 1748, 1750, 1752, 1754, 1756, 1758, 1760, 1762, 1764, 1766, 1768, 1770, 1772, 1774, 1776, 1778, 1780, 1782, 1784, 1786] (by decide +kernel) x h, by
  obtain ⟨k, -, rfl⟩ := List.mem_map.mp h
  unfold u_lay
  split <;> rfl⟩
theorem gk_n12 : ∀ a, a < 43 → ∀ b, b < 43 → a ≠ b → (gk_T12 a).2.1 ≠ (gk_T12 b).2.1 := by decide +kernel
theorem gk_y12 : ∀ (k : Nat) (t : FieldType × Bool), (gk_fty.getD 12 [])[k]? = some t → parseFieldDescriptor (gk_T12 k).2.2.1 = some t.1 ∧ (gk_T12 k).2.2.2 = t.2 := by
  intro k t h
  have hk : k < 43 := (List.getElem?_eq_some_iff.mp h).1
  have hall : (List.range 43).all (fun k => match (gk_fty.getD 12 [])[k]? with | some t => decide (parseFieldDescriptor (gk_T12 k).2.2.1 = some t.1 ∧ (gk_T12 k).2.2.2 = t.2) | none => true) = true := by decide +kernel
  have h1 := List.all_eq_true.mp hall k (List.mem_range.mpr hk)
  rw [h] at h1
  exact of_decide_eq_true h1
theorem gk_clok : rk_clok gk_tbl gk_cl gk_fty gk_cln := by
  intro ci q h
  match ci, h with
  | 0, h => cases h; exact ⟨gk_u0, gk_n0, rfl, _, rfl, rfl, gk_y0⟩
  | 1, h => cases h; exact ⟨gk_u1, gk_n1, rfl, _, rfl, rfl, gk_y1⟩
  | 2, h => cases h; exact ⟨gk_u2, gk_n2, rfl, _, rfl, rfl, gk_y2⟩
  | 3, h => cases h; exact ⟨gk_u3, gk_n3, rfl, _, rfl, rfl, gk_y3⟩
  | 4, h => cases h; exact ⟨gk_u4, gk_n4, rfl, _, rfl, rfl, gk_y4⟩
  | 5, h => cases h; exact ⟨gk_u5, gk_n5, rfl, _, rfl, rfl, gk_y5⟩
  | 6, h => cases h; exact ⟨gk_u6, gk_n6, rfl, _, rfl, rfl, gk_y6⟩
  | 7, h => cases h; exact ⟨gk_u7, gk_n7, rfl, _, rfl, rfl, gk_y7⟩
  | 8, h => cases h; exact ⟨gk_u8, gk_n8, rfl, _, rfl, rfl, gk_y8⟩
  | 9, h => cases h; exact ⟨gk_u9, gk_n9, rfl, _, rfl, rfl, gk_y9⟩
  | 10, h => cases h; exact ⟨gk_u10, gk_n10, rfl, _, rfl, rfl, gk_y10⟩
  | 11, h => cases h; exact ⟨gk_u11, gk_n11, rfl, _, rfl, rfl, gk_y11⟩
  | 12, h => cases h; exact ⟨gk_u12, gk_n12, rfl, _, rfl, rfl, gk_y12⟩
  | k + 13, h => simp [gk_cl] at h
