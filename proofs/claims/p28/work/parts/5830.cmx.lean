/-! ===== the class's memory with the kept lakes ===== -/
def co68 (g : Nat → Int32) (l : Nat → Int64) : List Value := [.ref 69, .ref 70, .ref 71, .ref 72, .int (g 4), .int (g 5)]
def co185 (g : Nat → Int32) (l : Nat → Int64) : List Value := [.ref 186, .ref 187, .int (g 2)]
def co192 (g : Nat → Int32) (l : Nat → Int64) : List Value := [.ref 193, .ref 194, .ref 195, .ref 196, .ref 197, .ref 198, .ref 203, .ref 211, .int (g 8), .int (g 9), .int (g 10), .int (g 11), .int (g 12), .int (g 13)]
def co198 (g : Nat → Int32) (l : Nat → Int64) : List Value := [.ref 199, .ref 200, .ref 201, .ref 202, .int (g 4), .int (g 5)]
def co203 (g : Nat → Int32) (l : Nat → Int64) : List Value := [.ref 204, .ref 205, .ref 206, .ref 207, .ref 208, .ref 209, .ref 210, .int (g 7), .int (g 8), .int (g 9)]
def co211 (g : Nat → Int32) (l : Nat → Int64) : List Value := [.ref 212, .ref 213, .ref 214, .ref 215, .ref 216, .ref 217, .int (g 6), .int (g 7)]
def co218 (g : Nat → Int32) (l : Nat → Int64) : List Value := [.ref 219, .ref 220, .ref 221, .ref 222, .ref 223, .ref 224, .ref 229, .ref 237, .int (g 8), .int (g 9), .int (g 10), .int (g 11), .int (g 12), .int (g 13)]
def co224 (g : Nat → Int32) (l : Nat → Int64) : List Value := [.ref 225, .ref 226, .ref 227, .ref 228, .int (g 4), .int (g 5)]
def co229 (g : Nat → Int32) (l : Nat → Int64) : List Value := [.ref 230, .ref 231, .ref 232, .ref 233, .ref 234, .ref 235, .ref 236, .int (g 7), .int (g 8), .int (g 9)]
def co237 (g : Nat → Int32) (l : Nat → Int64) : List Value := [.ref 238, .ref 239, .ref 240, .ref 241, .ref 242, .ref 243, .int (g 6), .int (g 7)]
def co244 (g : Nat → Int32) (l : Nat → Int64) : List Value := [.ref 245, .ref 246, .ref 247, .ref 248, .ref 249, .ref 250, .ref 255, .ref 263, .int (g 8), .int (g 9), .int (g 10), .int (g 11), .int (g 12), .int (g 13)]
def co250 (g : Nat → Int32) (l : Nat → Int64) : List Value := [.ref 251, .ref 252, .ref 253, .ref 254, .int (g 4), .int (g 5)]
def co255 (g : Nat → Int32) (l : Nat → Int64) : List Value := [.ref 256, .ref 257, .ref 258, .ref 259, .ref 260, .ref 261, .ref 262, .int (g 7), .int (g 8), .int (g 9)]
def co263 (g : Nat → Int32) (l : Nat → Int64) : List Value := [.ref 264, .ref 265, .ref 266, .ref 267, .ref 268, .ref 269, .int (g 6), .int (g 7)]
def cr67 : Nat → Option Nat := fun i => if i < 3 then some (192 + 26 * i) else none
def cR (g : Nat → Nat → Int32) (l : Nat → Nat → Int64) (a : Nat → Nat → Int32) (b : Nat → Nat → Int64) (R : (Nat → fx_E) × fx_M) : fx_M := .inr (.object "GooseIce$Lake", 3, .inr (.inr (.inr (.inr cr67)))) :: .inl (6, co68 (g 68) (l 68)) :: .inr (.int, 10, .inl (a 69)) :: .inr (.int, 11, .inl (a 70)) :: .inr (.int, 10, .inl (a 71)) :: .inr (.int, 1024, .inl (a 72)) :: R.1 73 :: R.1 74 :: R.1 75 :: R.1 76 :: R.1 77 :: R.1 78 :: R.1 79 :: R.1 80 :: R.1 81 :: R.1 82 :: R.1 83 :: R.1 84 :: R.1 85 :: R.1 86 :: R.1 87 :: R.1 88 :: R.1 89 :: R.1 90 :: R.1 91 :: R.1 92 :: R.1 93 :: R.1 94 :: R.1 95 :: R.1 96 :: R.1 97 :: R.1 98 :: R.1 99 :: R.1 100 :: R.1 101 :: R.1 102 :: R.1 103 :: R.1 104 :: R.1 105 :: R.1 106 :: R.1 107 :: R.1 108 :: R.1 109 :: R.1 110 :: R.1 111 :: R.1 112 :: R.1 113 :: R.1 114 :: R.1 115 :: R.1 116 :: R.1 117 :: R.1 118 :: R.1 119 :: R.1 120 :: R.1 121 :: R.1 122 :: R.1 123 :: R.1 124 :: R.1 125 :: R.1 126 :: R.1 127 :: R.1 128 :: R.1 129 :: R.1 130 :: R.1 131 :: R.1 132 :: R.1 133 :: R.1 134 :: R.1 135 :: R.1 136 :: R.1 137 :: R.1 138 :: R.1 139 :: R.1 140 :: R.1 141 :: R.1 142 :: R.1 143 :: R.1 144 :: R.1 145 :: R.1 146 :: R.1 147 :: R.1 148 :: R.1 149 :: R.1 150 :: R.1 151 :: R.1 152 :: R.1 153 :: R.1 154 :: R.1 155 :: R.1 156 :: R.1 157 :: R.1 158 :: R.1 159 :: R.1 160 :: R.1 161 :: R.1 162 :: R.1 163 :: R.1 164 :: R.1 165 :: R.1 166 :: R.1 167 :: R.1 168 :: R.1 169 :: R.1 170 :: R.1 171 :: R.1 172 :: R.1 173 :: R.1 174 :: R.1 175 :: R.1 176 :: R.1 177 :: R.1 178 :: R.1 179 :: R.1 180 :: R.1 181 :: R.1 182 :: R.1 183 :: R.1 184 :: .inl (1, co185 (g 185) (l 185)) :: .inr (.long, 21, .inr (.inl (b 186))) :: .inr (.long, 21, .inr (.inl (b 187))) :: R.1 188 :: R.1 189 :: R.1 190 :: R.1 191 :: .inl (3, co192 (g 192) (l 192)) :: .inr (.long, 10, .inr (.inl (b 193))) :: .inr (.int, 10, .inl (a 194)) :: .inr (.int, 10, .inl (a 195)) :: .inr (.int, 10, .inl (a 196)) :: .inr (.int, 10, .inl (a 197)) :: .inl (2, co198 (g 198) (l 198)) :: .inr (.int, 10, .inl (a 199)) :: .inr (.int, 10, .inl (a 200)) :: .inr (.int, 10, .inl (a 201)) :: .inr (.int, 200, .inl (a 202)) :: .inl (0, co203 (g 203) (l 203)) :: .inr (.long, 8, .inr (.inl (b 204))) :: .inr (.int, 8, .inl (a 205)) :: .inr (.int, 8, .inl (a 206)) :: .inr (.int, 8, .inl (a 207)) :: .inr (.int, 8, .inl (a 208)) :: .inr (.int, 8, .inl (a 209)) :: .inr (.int, 160, .inl (a 210)) :: .inl (9, co211 (g 211) (l 211)) :: .inr (.int, 30, .inl (a 212)) :: .inr (.int, 30, .inl (a 213)) :: .inr (.int, 30, .inl (a 214)) :: .inr (.int, 30, .inl (a 215)) :: .inr (.int, 30, .inl (a 216)) :: .inr (.int, 30, .inl (a 217)) :: .inl (3, co218 (g 218) (l 218)) :: .inr (.long, 10, .inr (.inl (b 219))) :: .inr (.int, 10, .inl (a 220)) :: .inr (.int, 10, .inl (a 221)) :: .inr (.int, 10, .inl (a 222)) :: .inr (.int, 10, .inl (a 223)) :: .inl (2, co224 (g 224) (l 224)) :: .inr (.int, 10, .inl (a 225)) :: .inr (.int, 10, .inl (a 226)) :: .inr (.int, 10, .inl (a 227)) :: .inr (.int, 200, .inl (a 228)) :: .inl (0, co229 (g 229) (l 229)) :: .inr (.long, 8, .inr (.inl (b 230))) :: .inr (.int, 8, .inl (a 231)) :: .inr (.int, 8, .inl (a 232)) :: .inr (.int, 8, .inl (a 233)) :: .inr (.int, 8, .inl (a 234)) :: .inr (.int, 8, .inl (a 235)) :: .inr (.int, 160, .inl (a 236)) :: .inl (9, co237 (g 237) (l 237)) :: .inr (.int, 30, .inl (a 238)) :: .inr (.int, 30, .inl (a 239)) :: .inr (.int, 30, .inl (a 240)) :: .inr (.int, 30, .inl (a 241)) :: .inr (.int, 30, .inl (a 242)) :: .inr (.int, 30, .inl (a 243)) :: .inl (3, co244 (g 244) (l 244)) :: .inr (.long, 10, .inr (.inl (b 245))) :: .inr (.int, 10, .inl (a 246)) :: .inr (.int, 10, .inl (a 247)) :: .inr (.int, 10, .inl (a 248)) :: .inr (.int, 10, .inl (a 249)) :: .inl (2, co250 (g 250) (l 250)) :: .inr (.int, 10, .inl (a 251)) :: .inr (.int, 10, .inl (a 252)) :: .inr (.int, 10, .inl (a 253)) :: .inr (.int, 200, .inl (a 254)) :: .inl (0, co255 (g 255) (l 255)) :: .inr (.long, 8, .inr (.inl (b 256))) :: .inr (.int, 8, .inl (a 257)) :: .inr (.int, 8, .inl (a 258)) :: .inr (.int, 8, .inl (a 259)) :: .inr (.int, 8, .inl (a 260)) :: .inr (.int, 8, .inl (a 261)) :: .inr (.int, 160, .inl (a 262)) :: .inl (9, co263 (g 263) (l 263)) :: .inr (.int, 30, .inl (a 264)) :: .inr (.int, 30, .inl (a 265)) :: .inr (.int, 30, .inl (a 266)) :: .inr (.int, 30, .inl (a 267)) :: .inr (.int, 30, .inl (a 268)) :: .inr (.int, 30, .inl (a 269)) :: R.2
def cx (g : Nat → Nat → Int32) (l : Nat → Nat → Int64) (a : Nat → Nat → Int32) (b : Nat → Nat → Int64) (R : (Nat → fx_E) × fx_M) : fx_M := cm g l a b (cR g l a b R)
def gx_L : List (Nat × Nat × Nat) := [(67, 0, 192), (67, 1, 218), (67, 2, 244), (68, 0, 69), (68, 1, 70), (68, 2, 71), (68, 3, 72), (185, 0, 186), (185, 1, 187), (192, 0, 193), (192, 1, 194), (192, 2, 195), (192, 3, 196), (192, 4, 197), (192, 5, 198), (192, 6, 203), (192, 7, 211), (198, 0, 199), (198, 1, 200), (198, 2, 201), (198, 3, 202), (203, 0, 204), (203, 1, 205), (203, 2, 206), (203, 3, 207), (203, 4, 208), (203, 5, 209), (203, 6, 210), (211, 0, 212), (211, 1, 213), (211, 2, 214), (211, 3, 215), (211, 4, 216), (211, 5, 217), (218, 0, 219), (218, 1, 220), (218, 2, 221), (218, 3, 222), (218, 4, 223), (218, 5, 224), (218, 6, 229), (218, 7, 237), (224, 0, 225), (224, 1, 226), (224, 2, 227), (224, 3, 228), (229, 0, 230), (229, 1, 231), (229, 2, 232), (229, 3, 233), (229, 4, 234), (229, 5, 235), (229, 6, 236), (237, 0, 238), (237, 1, 239), (237, 2, 240), (237, 3, 241), (237, 4, 242), (237, 5, 243), (244, 0, 245), (244, 1, 246), (244, 2, 247), (244, 3, 248), (244, 4, 249), (244, 5, 250), (244, 6, 255), (244, 7, 263), (250, 0, 251), (250, 1, 252), (250, 2, 253), (250, 3, 254), (255, 0, 256), (255, 1, 257), (255, 2, 258), (255, 3, 259), (255, 4, 260), (255, 5, 261), (255, 6, 262), (263, 0, 264), (263, 1, 265), (263, 2, 266), (263, 3, 267), (263, 4, 268), (263, 5, 269)]
def gx (ws : va_W) : Prop := ∀ z ∈ gx_L, lw_at ws (z.1, z.2.1) = (ws[z.2.2]?).map (fun q => Value.ref q.1)
def hc_q (ads : List Nat) (ws : va_W) (j : Nat) : fx_E := match (hc_mem ads lw_twC ws)[j]? with
  | some e => e
  | none => .inl (0, [])
section HCX
variable {ads : List Nat} {ws : va_W} {U : State}
theorem hc_fx (h4 : ws.map Prod.fst = ads) (hD : va_D (fun _ => True) ws) (hG : gx ws) {j i k y ci : Nat} {vs : List Value} (hw : ws[j]? = some (y, .inr (ci, vs))) (hz : (j, i, k) ∈ gx_L) (hlt : i < vs.length) : (vs.map (hc_bk ads))[i]? = some (.ref k) := by
  have h := hG _ hz
  unfold lw_at at h
  dsimp only at h
  rw [hw] at h
  have h : vs[i]? = (ws[k]?).map (fun q => Value.ref q.1) := h
  rw [List.getElem?_map]
  rw [List.getElem?_eq_getElem hlt] at h ⊢
  show some (hc_bk ads vs[i]) = _
  rw [hc_bk_ref h4 hD h]
theorem hc_ar67 (h4 : ws.map Prod.fst = ads) (h5 : rk_A2 (fun b (q : Nat × va_E) => tk_cl gc_TY lc_ro ads lw_twC U b q.2) lw_twC ws) (hD : va_D (fun _ => True) ws) (hG : gx ws) : (hc_mem ads lw_twC ws)[67]? = some (.inr (.object "GooseIce$Lake", 3, .inr (.inr (.inr (.inr cr67))))) := by
  have ht : lw_twC[67]? = some 64 := by decide +kernel
  obtain ⟨q, hq, hc⟩ := h5.get ht
  unfold tk_cl at hc
  rw [show gc_TY.1[64]? = some (.inr (.object "GooseIce$Lake", 3, (2, 65, 0))) from rfl] at hc
  obtain ⟨cA, -, -, h3⟩ := hc
  obtain ⟨f, e, -⟩ := (show ∃ f : Nat → Option Nat, q.2 = .inl (cA, 3, .inr (.inr (.inr (.inr f)))) ∧ _ from h3)
  rw [hc_mem_at hq ht, e]
  have e2 : hc_ad ads 3 f = cr67 := by
    funext i
    unfold hc_ad cr67
    by_cases hi : i < 3
    · rw [if_pos hi, if_pos hi]
      have hz : (67, i, 192 + 26 * i) ∈ gx_L := by
        rcases (by omega : i = 0 ∨ i = 1 ∨ i = 2) with rfl | rfl | rfl <;> decide
      have h := hG _ hz
      unfold lw_at at h
      dsimp only at h
      rw [hq, show q = (q.1, q.2) from rfl, e] at h
      have h : (if i < 3 then some (va_rf (f i)) else none) = (ws[192 + 26 * i]?).map (fun q => Value.ref q.1) := h
      rw [if_pos hi] at h
      have h2 := hc_bk_ref h4 hD h
      cases hf : f i with
      | none => rw [hf] at h2; cases h2
      | some y =>
        rw [hf] at h2
        have h2 : Value.ref (hc_ix ads y) = .ref (192 + 26 * i) := h2
        show some (hc_ix ads y) = _
        rw [Value.ref.inj h2]
    · rw [if_neg hi, if_neg hi]
  show some (Sum.inr (hc_ft 64, (3, Sum.inr (Sum.inr (Sum.inr (Sum.inr (hc_ad ads 3 f)))))) : fx_E) = _
  rw [e2]
  rfl
theorem hc_o68 (h4 : ws.map Prod.fst = ads) (h5 : rk_A2 (fun b (q : Nat × va_E) => tk_cl gc_TY lc_ro ads lw_twC U b q.2) lw_twC ws) (hD : va_D (fun _ => True) ws) (hG : gx ws) : (hc_mem ads lw_twC ws)[68]? = some (.inl (6, co68 (cg ws 68) (cl_ ws 68))) := by
  have ht : lw_twC[68]? = some 91 := by decide +kernel
  obtain ⟨y, vs, hw, hl, hvs⟩ := hc_obj h4 h5 ht rfl
  have hl2 : vs.length = 6 := hl
  rw [hc_mem_at hw ht]
  show some (Sum.inl (6, vs.map (hc_bk ads)) : fx_E) = _
  have e : vs.map (hc_bk ads) = co68 (cg ws 68) (cl_ ws 68) := by
    apply List.ext_getElem?
    intro i
    match i with
    | 0 => exact hc_fx h4 hD hG hw (by decide) (by omega)
    | 1 => exact hc_fx h4 hD hG hw (by decide) (by omega)
    | 2 => exact hc_fx h4 hD hG hw (by decide) (by omega)
    | 3 => exact hc_fx h4 hD hG hw (by decide) (by omega)
    | 4 => exact hc_fm (hc_fi hw hl hvs rfl) rfl
    | 5 => exact hc_fm (hc_fi hw hl hvs rfl) rfl
    | i + 6 => rw [List.getElem?_eq_none (by rw [List.length_map]; omega), List.getElem?_eq_none (by show 6 ≤ i + 6; omega)]
  rw [e]
theorem hc_o185 (h4 : ws.map Prod.fst = ads) (h5 : rk_A2 (fun b (q : Nat × va_E) => tk_cl gc_TY lc_ro ads lw_twC U b q.2) lw_twC ws) (hD : va_D (fun _ => True) ws) (hG : gx ws) : (hc_mem ads lw_twC ws)[185]? = some (.inl (1, co185 (cg ws 185) (cl_ ws 185))) := by
  have ht : lw_twC[185]? = some 208 := by decide +kernel
  obtain ⟨y, vs, hw, hl, hvs⟩ := hc_obj h4 h5 ht rfl
  have hl2 : vs.length = 3 := hl
  rw [hc_mem_at hw ht]
  show some (Sum.inl (1, vs.map (hc_bk ads)) : fx_E) = _
  have e : vs.map (hc_bk ads) = co185 (cg ws 185) (cl_ ws 185) := by
    apply List.ext_getElem?
    intro i
    match i with
    | 0 => exact hc_fx h4 hD hG hw (by decide) (by omega)
    | 1 => exact hc_fx h4 hD hG hw (by decide) (by omega)
    | 2 => exact hc_fm (hc_fi hw hl hvs rfl) rfl
    | i + 3 => rw [List.getElem?_eq_none (by rw [List.length_map]; omega), List.getElem?_eq_none (by show 3 ≤ i + 3; omega)]
  rw [e]
theorem hc_o192 (h4 : ws.map Prod.fst = ads) (h5 : rk_A2 (fun b (q : Nat × va_E) => tk_cl gc_TY lc_ro ads lw_twC U b q.2) lw_twC ws) (hD : va_D (fun _ => True) ws) (hG : gx ws) : (hc_mem ads lw_twC ws)[192]? = some (.inl (3, co192 (cg ws 192) (cl_ ws 192))) := by
  have ht : lw_twC[192]? = some 65 := by decide +kernel
  obtain ⟨y, vs, hw, hl, hvs⟩ := hc_obj h4 h5 ht rfl
  have hl2 : vs.length = 14 := hl
  rw [hc_mem_at hw ht]
  show some (Sum.inl (3, vs.map (hc_bk ads)) : fx_E) = _
  have e : vs.map (hc_bk ads) = co192 (cg ws 192) (cl_ ws 192) := by
    apply List.ext_getElem?
    intro i
    match i with
    | 0 => exact hc_fx h4 hD hG hw (by decide) (by omega)
    | 1 => exact hc_fx h4 hD hG hw (by decide) (by omega)
    | 2 => exact hc_fx h4 hD hG hw (by decide) (by omega)
    | 3 => exact hc_fx h4 hD hG hw (by decide) (by omega)
    | 4 => exact hc_fx h4 hD hG hw (by decide) (by omega)
    | 5 => exact hc_fx h4 hD hG hw (by decide) (by omega)
    | 6 => exact hc_fx h4 hD hG hw (by decide) (by omega)
    | 7 => exact hc_fx h4 hD hG hw (by decide) (by omega)
    | 8 => exact hc_fm (hc_fi hw hl hvs rfl) rfl
    | 9 => exact hc_fm (hc_fi hw hl hvs rfl) rfl
    | 10 => exact hc_fm (hc_fi hw hl hvs rfl) rfl
    | 11 => exact hc_fm (hc_fi hw hl hvs rfl) rfl
    | 12 => exact hc_fm (hc_fi hw hl hvs rfl) rfl
    | 13 => exact hc_fm (hc_fi hw hl hvs rfl) rfl
    | i + 14 => rw [List.getElem?_eq_none (by rw [List.length_map]; omega), List.getElem?_eq_none (by show 14 ≤ i + 14; omega)]
  rw [e]
theorem hc_o198 (h4 : ws.map Prod.fst = ads) (h5 : rk_A2 (fun b (q : Nat × va_E) => tk_cl gc_TY lc_ro ads lw_twC U b q.2) lw_twC ws) (hD : va_D (fun _ => True) ws) (hG : gx ws) : (hc_mem ads lw_twC ws)[198]? = some (.inl (2, co198 (cg ws 198) (cl_ ws 198))) := by
  have ht : lw_twC[198]? = some 71 := by decide +kernel
  obtain ⟨y, vs, hw, hl, hvs⟩ := hc_obj h4 h5 ht rfl
  have hl2 : vs.length = 6 := hl
  rw [hc_mem_at hw ht]
  show some (Sum.inl (2, vs.map (hc_bk ads)) : fx_E) = _
  have e : vs.map (hc_bk ads) = co198 (cg ws 198) (cl_ ws 198) := by
    apply List.ext_getElem?
    intro i
    match i with
    | 0 => exact hc_fx h4 hD hG hw (by decide) (by omega)
    | 1 => exact hc_fx h4 hD hG hw (by decide) (by omega)
    | 2 => exact hc_fx h4 hD hG hw (by decide) (by omega)
    | 3 => exact hc_fx h4 hD hG hw (by decide) (by omega)
    | 4 => exact hc_fm (hc_fi hw hl hvs rfl) rfl
    | 5 => exact hc_fm (hc_fi hw hl hvs rfl) rfl
    | i + 6 => rw [List.getElem?_eq_none (by rw [List.length_map]; omega), List.getElem?_eq_none (by show 6 ≤ i + 6; omega)]
  rw [e]
theorem hc_o203 (h4 : ws.map Prod.fst = ads) (h5 : rk_A2 (fun b (q : Nat × va_E) => tk_cl gc_TY lc_ro ads lw_twC U b q.2) lw_twC ws) (hD : va_D (fun _ => True) ws) (hG : gx ws) : (hc_mem ads lw_twC ws)[203]? = some (.inl (0, co203 (cg ws 203) (cl_ ws 203))) := by
  have ht : lw_twC[203]? = some 76 := by decide +kernel
  obtain ⟨y, vs, hw, hl, hvs⟩ := hc_obj h4 h5 ht rfl
  have hl2 : vs.length = 10 := hl
  rw [hc_mem_at hw ht]
  show some (Sum.inl (0, vs.map (hc_bk ads)) : fx_E) = _
  have e : vs.map (hc_bk ads) = co203 (cg ws 203) (cl_ ws 203) := by
    apply List.ext_getElem?
    intro i
    match i with
    | 0 => exact hc_fx h4 hD hG hw (by decide) (by omega)
    | 1 => exact hc_fx h4 hD hG hw (by decide) (by omega)
    | 2 => exact hc_fx h4 hD hG hw (by decide) (by omega)
    | 3 => exact hc_fx h4 hD hG hw (by decide) (by omega)
    | 4 => exact hc_fx h4 hD hG hw (by decide) (by omega)
    | 5 => exact hc_fx h4 hD hG hw (by decide) (by omega)
    | 6 => exact hc_fx h4 hD hG hw (by decide) (by omega)
    | 7 => exact hc_fm (hc_fi hw hl hvs rfl) rfl
    | 8 => exact hc_fm (hc_fi hw hl hvs rfl) rfl
    | 9 => exact hc_fm (hc_fi hw hl hvs rfl) rfl
    | i + 10 => rw [List.getElem?_eq_none (by rw [List.length_map]; omega), List.getElem?_eq_none (by show 10 ≤ i + 10; omega)]
  rw [e]
theorem hc_o211 (h4 : ws.map Prod.fst = ads) (h5 : rk_A2 (fun b (q : Nat × va_E) => tk_cl gc_TY lc_ro ads lw_twC U b q.2) lw_twC ws) (hD : va_D (fun _ => True) ws) (hG : gx ws) : (hc_mem ads lw_twC ws)[211]? = some (.inl (9, co211 (cg ws 211) (cl_ ws 211))) := by
  have ht : lw_twC[211]? = some 84 := by decide +kernel
  obtain ⟨y, vs, hw, hl, hvs⟩ := hc_obj h4 h5 ht rfl
  have hl2 : vs.length = 8 := hl
  rw [hc_mem_at hw ht]
  show some (Sum.inl (9, vs.map (hc_bk ads)) : fx_E) = _
  have e : vs.map (hc_bk ads) = co211 (cg ws 211) (cl_ ws 211) := by
    apply List.ext_getElem?
    intro i
    match i with
    | 0 => exact hc_fx h4 hD hG hw (by decide) (by omega)
    | 1 => exact hc_fx h4 hD hG hw (by decide) (by omega)
    | 2 => exact hc_fx h4 hD hG hw (by decide) (by omega)
    | 3 => exact hc_fx h4 hD hG hw (by decide) (by omega)
    | 4 => exact hc_fx h4 hD hG hw (by decide) (by omega)
    | 5 => exact hc_fx h4 hD hG hw (by decide) (by omega)
    | 6 => exact hc_fm (hc_fi hw hl hvs rfl) rfl
    | 7 => exact hc_fm (hc_fi hw hl hvs rfl) rfl
    | i + 8 => rw [List.getElem?_eq_none (by rw [List.length_map]; omega), List.getElem?_eq_none (by show 8 ≤ i + 8; omega)]
  rw [e]
theorem hc_o218 (h4 : ws.map Prod.fst = ads) (h5 : rk_A2 (fun b (q : Nat × va_E) => tk_cl gc_TY lc_ro ads lw_twC U b q.2) lw_twC ws) (hD : va_D (fun _ => True) ws) (hG : gx ws) : (hc_mem ads lw_twC ws)[218]? = some (.inl (3, co218 (cg ws 218) (cl_ ws 218))) := by
  have ht : lw_twC[218]? = some 65 := by decide +kernel
  obtain ⟨y, vs, hw, hl, hvs⟩ := hc_obj h4 h5 ht rfl
  have hl2 : vs.length = 14 := hl
  rw [hc_mem_at hw ht]
  show some (Sum.inl (3, vs.map (hc_bk ads)) : fx_E) = _
  have e : vs.map (hc_bk ads) = co218 (cg ws 218) (cl_ ws 218) := by
    apply List.ext_getElem?
    intro i
    match i with
    | 0 => exact hc_fx h4 hD hG hw (by decide) (by omega)
    | 1 => exact hc_fx h4 hD hG hw (by decide) (by omega)
    | 2 => exact hc_fx h4 hD hG hw (by decide) (by omega)
    | 3 => exact hc_fx h4 hD hG hw (by decide) (by omega)
    | 4 => exact hc_fx h4 hD hG hw (by decide) (by omega)
    | 5 => exact hc_fx h4 hD hG hw (by decide) (by omega)
    | 6 => exact hc_fx h4 hD hG hw (by decide) (by omega)
    | 7 => exact hc_fx h4 hD hG hw (by decide) (by omega)
    | 8 => exact hc_fm (hc_fi hw hl hvs rfl) rfl
    | 9 => exact hc_fm (hc_fi hw hl hvs rfl) rfl
    | 10 => exact hc_fm (hc_fi hw hl hvs rfl) rfl
    | 11 => exact hc_fm (hc_fi hw hl hvs rfl) rfl
    | 12 => exact hc_fm (hc_fi hw hl hvs rfl) rfl
    | 13 => exact hc_fm (hc_fi hw hl hvs rfl) rfl
    | i + 14 => rw [List.getElem?_eq_none (by rw [List.length_map]; omega), List.getElem?_eq_none (by show 14 ≤ i + 14; omega)]
  rw [e]
theorem hc_o224 (h4 : ws.map Prod.fst = ads) (h5 : rk_A2 (fun b (q : Nat × va_E) => tk_cl gc_TY lc_ro ads lw_twC U b q.2) lw_twC ws) (hD : va_D (fun _ => True) ws) (hG : gx ws) : (hc_mem ads lw_twC ws)[224]? = some (.inl (2, co224 (cg ws 224) (cl_ ws 224))) := by
  have ht : lw_twC[224]? = some 71 := by decide +kernel
  obtain ⟨y, vs, hw, hl, hvs⟩ := hc_obj h4 h5 ht rfl
  have hl2 : vs.length = 6 := hl
  rw [hc_mem_at hw ht]
  show some (Sum.inl (2, vs.map (hc_bk ads)) : fx_E) = _
  have e : vs.map (hc_bk ads) = co224 (cg ws 224) (cl_ ws 224) := by
    apply List.ext_getElem?
    intro i
    match i with
    | 0 => exact hc_fx h4 hD hG hw (by decide) (by omega)
    | 1 => exact hc_fx h4 hD hG hw (by decide) (by omega)
    | 2 => exact hc_fx h4 hD hG hw (by decide) (by omega)
    | 3 => exact hc_fx h4 hD hG hw (by decide) (by omega)
    | 4 => exact hc_fm (hc_fi hw hl hvs rfl) rfl
    | 5 => exact hc_fm (hc_fi hw hl hvs rfl) rfl
    | i + 6 => rw [List.getElem?_eq_none (by rw [List.length_map]; omega), List.getElem?_eq_none (by show 6 ≤ i + 6; omega)]
  rw [e]
theorem hc_o229 (h4 : ws.map Prod.fst = ads) (h5 : rk_A2 (fun b (q : Nat × va_E) => tk_cl gc_TY lc_ro ads lw_twC U b q.2) lw_twC ws) (hD : va_D (fun _ => True) ws) (hG : gx ws) : (hc_mem ads lw_twC ws)[229]? = some (.inl (0, co229 (cg ws 229) (cl_ ws 229))) := by
  have ht : lw_twC[229]? = some 76 := by decide +kernel
  obtain ⟨y, vs, hw, hl, hvs⟩ := hc_obj h4 h5 ht rfl
  have hl2 : vs.length = 10 := hl
  rw [hc_mem_at hw ht]
  show some (Sum.inl (0, vs.map (hc_bk ads)) : fx_E) = _
  have e : vs.map (hc_bk ads) = co229 (cg ws 229) (cl_ ws 229) := by
    apply List.ext_getElem?
    intro i
    match i with
    | 0 => exact hc_fx h4 hD hG hw (by decide) (by omega)
    | 1 => exact hc_fx h4 hD hG hw (by decide) (by omega)
    | 2 => exact hc_fx h4 hD hG hw (by decide) (by omega)
    | 3 => exact hc_fx h4 hD hG hw (by decide) (by omega)
    | 4 => exact hc_fx h4 hD hG hw (by decide) (by omega)
    | 5 => exact hc_fx h4 hD hG hw (by decide) (by omega)
    | 6 => exact hc_fx h4 hD hG hw (by decide) (by omega)
    | 7 => exact hc_fm (hc_fi hw hl hvs rfl) rfl
    | 8 => exact hc_fm (hc_fi hw hl hvs rfl) rfl
    | 9 => exact hc_fm (hc_fi hw hl hvs rfl) rfl
    | i + 10 => rw [List.getElem?_eq_none (by rw [List.length_map]; omega), List.getElem?_eq_none (by show 10 ≤ i + 10; omega)]
  rw [e]
theorem hc_o237 (h4 : ws.map Prod.fst = ads) (h5 : rk_A2 (fun b (q : Nat × va_E) => tk_cl gc_TY lc_ro ads lw_twC U b q.2) lw_twC ws) (hD : va_D (fun _ => True) ws) (hG : gx ws) : (hc_mem ads lw_twC ws)[237]? = some (.inl (9, co237 (cg ws 237) (cl_ ws 237))) := by
  have ht : lw_twC[237]? = some 84 := by decide +kernel
  obtain ⟨y, vs, hw, hl, hvs⟩ := hc_obj h4 h5 ht rfl
  have hl2 : vs.length = 8 := hl
  rw [hc_mem_at hw ht]
  show some (Sum.inl (9, vs.map (hc_bk ads)) : fx_E) = _
  have e : vs.map (hc_bk ads) = co237 (cg ws 237) (cl_ ws 237) := by
    apply List.ext_getElem?
    intro i
    match i with
    | 0 => exact hc_fx h4 hD hG hw (by decide) (by omega)
    | 1 => exact hc_fx h4 hD hG hw (by decide) (by omega)
    | 2 => exact hc_fx h4 hD hG hw (by decide) (by omega)
    | 3 => exact hc_fx h4 hD hG hw (by decide) (by omega)
    | 4 => exact hc_fx h4 hD hG hw (by decide) (by omega)
    | 5 => exact hc_fx h4 hD hG hw (by decide) (by omega)
    | 6 => exact hc_fm (hc_fi hw hl hvs rfl) rfl
    | 7 => exact hc_fm (hc_fi hw hl hvs rfl) rfl
    | i + 8 => rw [List.getElem?_eq_none (by rw [List.length_map]; omega), List.getElem?_eq_none (by show 8 ≤ i + 8; omega)]
  rw [e]
theorem hc_o244 (h4 : ws.map Prod.fst = ads) (h5 : rk_A2 (fun b (q : Nat × va_E) => tk_cl gc_TY lc_ro ads lw_twC U b q.2) lw_twC ws) (hD : va_D (fun _ => True) ws) (hG : gx ws) : (hc_mem ads lw_twC ws)[244]? = some (.inl (3, co244 (cg ws 244) (cl_ ws 244))) := by
  have ht : lw_twC[244]? = some 65 := by decide +kernel
  obtain ⟨y, vs, hw, hl, hvs⟩ := hc_obj h4 h5 ht rfl
  have hl2 : vs.length = 14 := hl
  rw [hc_mem_at hw ht]
  show some (Sum.inl (3, vs.map (hc_bk ads)) : fx_E) = _
  have e : vs.map (hc_bk ads) = co244 (cg ws 244) (cl_ ws 244) := by
    apply List.ext_getElem?
    intro i
    match i with
    | 0 => exact hc_fx h4 hD hG hw (by decide) (by omega)
    | 1 => exact hc_fx h4 hD hG hw (by decide) (by omega)
    | 2 => exact hc_fx h4 hD hG hw (by decide) (by omega)
    | 3 => exact hc_fx h4 hD hG hw (by decide) (by omega)
    | 4 => exact hc_fx h4 hD hG hw (by decide) (by omega)
    | 5 => exact hc_fx h4 hD hG hw (by decide) (by omega)
    | 6 => exact hc_fx h4 hD hG hw (by decide) (by omega)
    | 7 => exact hc_fx h4 hD hG hw (by decide) (by omega)
    | 8 => exact hc_fm (hc_fi hw hl hvs rfl) rfl
    | 9 => exact hc_fm (hc_fi hw hl hvs rfl) rfl
    | 10 => exact hc_fm (hc_fi hw hl hvs rfl) rfl
    | 11 => exact hc_fm (hc_fi hw hl hvs rfl) rfl
    | 12 => exact hc_fm (hc_fi hw hl hvs rfl) rfl
    | 13 => exact hc_fm (hc_fi hw hl hvs rfl) rfl
    | i + 14 => rw [List.getElem?_eq_none (by rw [List.length_map]; omega), List.getElem?_eq_none (by show 14 ≤ i + 14; omega)]
  rw [e]
theorem hc_o250 (h4 : ws.map Prod.fst = ads) (h5 : rk_A2 (fun b (q : Nat × va_E) => tk_cl gc_TY lc_ro ads lw_twC U b q.2) lw_twC ws) (hD : va_D (fun _ => True) ws) (hG : gx ws) : (hc_mem ads lw_twC ws)[250]? = some (.inl (2, co250 (cg ws 250) (cl_ ws 250))) := by
  have ht : lw_twC[250]? = some 71 := by decide +kernel
  obtain ⟨y, vs, hw, hl, hvs⟩ := hc_obj h4 h5 ht rfl
  have hl2 : vs.length = 6 := hl
  rw [hc_mem_at hw ht]
  show some (Sum.inl (2, vs.map (hc_bk ads)) : fx_E) = _
  have e : vs.map (hc_bk ads) = co250 (cg ws 250) (cl_ ws 250) := by
    apply List.ext_getElem?
    intro i
    match i with
    | 0 => exact hc_fx h4 hD hG hw (by decide) (by omega)
    | 1 => exact hc_fx h4 hD hG hw (by decide) (by omega)
    | 2 => exact hc_fx h4 hD hG hw (by decide) (by omega)
    | 3 => exact hc_fx h4 hD hG hw (by decide) (by omega)
    | 4 => exact hc_fm (hc_fi hw hl hvs rfl) rfl
    | 5 => exact hc_fm (hc_fi hw hl hvs rfl) rfl
    | i + 6 => rw [List.getElem?_eq_none (by rw [List.length_map]; omega), List.getElem?_eq_none (by show 6 ≤ i + 6; omega)]
  rw [e]
theorem hc_o255 (h4 : ws.map Prod.fst = ads) (h5 : rk_A2 (fun b (q : Nat × va_E) => tk_cl gc_TY lc_ro ads lw_twC U b q.2) lw_twC ws) (hD : va_D (fun _ => True) ws) (hG : gx ws) : (hc_mem ads lw_twC ws)[255]? = some (.inl (0, co255 (cg ws 255) (cl_ ws 255))) := by
  have ht : lw_twC[255]? = some 76 := by decide +kernel
  obtain ⟨y, vs, hw, hl, hvs⟩ := hc_obj h4 h5 ht rfl
  have hl2 : vs.length = 10 := hl
  rw [hc_mem_at hw ht]
  show some (Sum.inl (0, vs.map (hc_bk ads)) : fx_E) = _
  have e : vs.map (hc_bk ads) = co255 (cg ws 255) (cl_ ws 255) := by
    apply List.ext_getElem?
    intro i
    match i with
    | 0 => exact hc_fx h4 hD hG hw (by decide) (by omega)
    | 1 => exact hc_fx h4 hD hG hw (by decide) (by omega)
    | 2 => exact hc_fx h4 hD hG hw (by decide) (by omega)
    | 3 => exact hc_fx h4 hD hG hw (by decide) (by omega)
    | 4 => exact hc_fx h4 hD hG hw (by decide) (by omega)
    | 5 => exact hc_fx h4 hD hG hw (by decide) (by omega)
    | 6 => exact hc_fx h4 hD hG hw (by decide) (by omega)
    | 7 => exact hc_fm (hc_fi hw hl hvs rfl) rfl
    | 8 => exact hc_fm (hc_fi hw hl hvs rfl) rfl
    | 9 => exact hc_fm (hc_fi hw hl hvs rfl) rfl
    | i + 10 => rw [List.getElem?_eq_none (by rw [List.length_map]; omega), List.getElem?_eq_none (by show 10 ≤ i + 10; omega)]
  rw [e]
theorem hc_o263 (h4 : ws.map Prod.fst = ads) (h5 : rk_A2 (fun b (q : Nat × va_E) => tk_cl gc_TY lc_ro ads lw_twC U b q.2) lw_twC ws) (hD : va_D (fun _ => True) ws) (hG : gx ws) : (hc_mem ads lw_twC ws)[263]? = some (.inl (9, co263 (cg ws 263) (cl_ ws 263))) := by
  have ht : lw_twC[263]? = some 84 := by decide +kernel
  obtain ⟨y, vs, hw, hl, hvs⟩ := hc_obj h4 h5 ht rfl
  have hl2 : vs.length = 8 := hl
  rw [hc_mem_at hw ht]
  show some (Sum.inl (9, vs.map (hc_bk ads)) : fx_E) = _
  have e : vs.map (hc_bk ads) = co263 (cg ws 263) (cl_ ws 263) := by
    apply List.ext_getElem?
    intro i
    match i with
    | 0 => exact hc_fx h4 hD hG hw (by decide) (by omega)
    | 1 => exact hc_fx h4 hD hG hw (by decide) (by omega)
    | 2 => exact hc_fx h4 hD hG hw (by decide) (by omega)
    | 3 => exact hc_fx h4 hD hG hw (by decide) (by omega)
    | 4 => exact hc_fx h4 hD hG hw (by decide) (by omega)
    | 5 => exact hc_fx h4 hD hG hw (by decide) (by omega)
    | 6 => exact hc_fm (hc_fi hw hl hvs rfl) rfl
    | 7 => exact hc_fm (hc_fi hw hl hvs rfl) rfl
    | i + 8 => rw [List.getElem?_eq_none (by rw [List.length_map]; omega), List.getElem?_eq_none (by show 8 ≤ i + 8; omega)]
  rw [e]
theorem hc_qj (h5 : rk_A2 (fun b (q : Nat × va_E) => tk_cl gc_TY lc_ro ads lw_twC U b q.2) lw_twC ws) {j : Nat} (hj : j < 270) : (hc_mem ads lw_twC ws)[j]? = some (hc_q ads ws j) := by
  have hl : j < (hc_mem ads lw_twC ws).length := by
    rw [hc_mem_len h5.len.symm, ← h5.len, lw_lenC]
    exact hj
  unfold hc_q
  rw [List.getElem?_eq_getElem hl]
theorem hc_cR (h4 : ws.map Prod.fst = ads) (h5 : rk_A2 (fun b (q : Nat × va_E) => tk_cl gc_TY lc_ro ads lw_twC U b q.2) lw_twC ws) (hD : va_D (fun _ => True) ws) (hG : gx ws) : (hc_mem ads lw_twC ws).drop 67 = cR (cg ws) (cl_ ws) (ca ws) (cb ws) (hc_q ads ws, (hc_mem ads lw_twC ws).drop 270) := by
  apply List.ext_getElem?
  intro i
  rw [List.getElem?_drop]
  match i with
  | 0 => exact hc_ar67 h4 h5 hD hG
  | 1 => exact hc_o68 h4 h5 hD hG
  | 2 => exact hc_arI h5 (show lw_twC[69]? = some 92 by decide +kernel) rfl (Or.inl rfl)
  | 3 => exact hc_arI h5 (show lw_twC[70]? = some 93 by decide +kernel) rfl (Or.inl rfl)
  | 4 => exact hc_arI h5 (show lw_twC[71]? = some 94 by decide +kernel) rfl (Or.inl rfl)
  | 5 => exact hc_arI h5 (show lw_twC[72]? = some 95 by decide +kernel) rfl (Or.inl rfl)
  | 6 => exact hc_qj h5 (by decide)
  | 7 => exact hc_qj h5 (by decide)
  | 8 => exact hc_qj h5 (by decide)
  | 9 => exact hc_qj h5 (by decide)
  | 10 => exact hc_qj h5 (by decide)
  | 11 => exact hc_qj h5 (by decide)
  | 12 => exact hc_qj h5 (by decide)
  | 13 => exact hc_qj h5 (by decide)
  | 14 => exact hc_qj h5 (by decide)
  | 15 => exact hc_qj h5 (by decide)
  | 16 => exact hc_qj h5 (by decide)
  | 17 => exact hc_qj h5 (by decide)
  | 18 => exact hc_qj h5 (by decide)
  | 19 => exact hc_qj h5 (by decide)
  | 20 => exact hc_qj h5 (by decide)
  | 21 => exact hc_qj h5 (by decide)
  | 22 => exact hc_qj h5 (by decide)
  | 23 => exact hc_qj h5 (by decide)
  | 24 => exact hc_qj h5 (by decide)
  | 25 => exact hc_qj h5 (by decide)
  | 26 => exact hc_qj h5 (by decide)
  | 27 => exact hc_qj h5 (by decide)
  | 28 => exact hc_qj h5 (by decide)
  | 29 => exact hc_qj h5 (by decide)
  | 30 => exact hc_qj h5 (by decide)
  | 31 => exact hc_qj h5 (by decide)
  | 32 => exact hc_qj h5 (by decide)
  | 33 => exact hc_qj h5 (by decide)
  | 34 => exact hc_qj h5 (by decide)
  | 35 => exact hc_qj h5 (by decide)
  | 36 => exact hc_qj h5 (by decide)
  | 37 => exact hc_qj h5 (by decide)
  | 38 => exact hc_qj h5 (by decide)
  | 39 => exact hc_qj h5 (by decide)
  | 40 => exact hc_qj h5 (by decide)
  | 41 => exact hc_qj h5 (by decide)
  | 42 => exact hc_qj h5 (by decide)
  | 43 => exact hc_qj h5 (by decide)
  | 44 => exact hc_qj h5 (by decide)
  | 45 => exact hc_qj h5 (by decide)
  | 46 => exact hc_qj h5 (by decide)
  | 47 => exact hc_qj h5 (by decide)
  | 48 => exact hc_qj h5 (by decide)
  | 49 => exact hc_qj h5 (by decide)
  | 50 => exact hc_qj h5 (by decide)
  | 51 => exact hc_qj h5 (by decide)
  | 52 => exact hc_qj h5 (by decide)
  | 53 => exact hc_qj h5 (by decide)
  | 54 => exact hc_qj h5 (by decide)
  | 55 => exact hc_qj h5 (by decide)
  | 56 => exact hc_qj h5 (by decide)
  | 57 => exact hc_qj h5 (by decide)
  | 58 => exact hc_qj h5 (by decide)
  | 59 => exact hc_qj h5 (by decide)
  | 60 => exact hc_qj h5 (by decide)
  | 61 => exact hc_qj h5 (by decide)
  | 62 => exact hc_qj h5 (by decide)
  | 63 => exact hc_qj h5 (by decide)
  | 64 => exact hc_qj h5 (by decide)
  | 65 => exact hc_qj h5 (by decide)
  | 66 => exact hc_qj h5 (by decide)
  | 67 => exact hc_qj h5 (by decide)
  | 68 => exact hc_qj h5 (by decide)
  | 69 => exact hc_qj h5 (by decide)
  | 70 => exact hc_qj h5 (by decide)
  | 71 => exact hc_qj h5 (by decide)
  | 72 => exact hc_qj h5 (by decide)
  | 73 => exact hc_qj h5 (by decide)
  | 74 => exact hc_qj h5 (by decide)
  | 75 => exact hc_qj h5 (by decide)
  | 76 => exact hc_qj h5 (by decide)
  | 77 => exact hc_qj h5 (by decide)
  | 78 => exact hc_qj h5 (by decide)
  | 79 => exact hc_qj h5 (by decide)
  | 80 => exact hc_qj h5 (by decide)
  | 81 => exact hc_qj h5 (by decide)
  | 82 => exact hc_qj h5 (by decide)
  | 83 => exact hc_qj h5 (by decide)
  | 84 => exact hc_qj h5 (by decide)
  | 85 => exact hc_qj h5 (by decide)
  | 86 => exact hc_qj h5 (by decide)
  | 87 => exact hc_qj h5 (by decide)
  | 88 => exact hc_qj h5 (by decide)
  | 89 => exact hc_qj h5 (by decide)
  | 90 => exact hc_qj h5 (by decide)
  | 91 => exact hc_qj h5 (by decide)
  | 92 => exact hc_qj h5 (by decide)
  | 93 => exact hc_qj h5 (by decide)
  | 94 => exact hc_qj h5 (by decide)
  | 95 => exact hc_qj h5 (by decide)
  | 96 => exact hc_qj h5 (by decide)
  | 97 => exact hc_qj h5 (by decide)
  | 98 => exact hc_qj h5 (by decide)
  | 99 => exact hc_qj h5 (by decide)
  | 100 => exact hc_qj h5 (by decide)
  | 101 => exact hc_qj h5 (by decide)
  | 102 => exact hc_qj h5 (by decide)
  | 103 => exact hc_qj h5 (by decide)
  | 104 => exact hc_qj h5 (by decide)
  | 105 => exact hc_qj h5 (by decide)
  | 106 => exact hc_qj h5 (by decide)
  | 107 => exact hc_qj h5 (by decide)
  | 108 => exact hc_qj h5 (by decide)
  | 109 => exact hc_qj h5 (by decide)
  | 110 => exact hc_qj h5 (by decide)
  | 111 => exact hc_qj h5 (by decide)
  | 112 => exact hc_qj h5 (by decide)
  | 113 => exact hc_qj h5 (by decide)
  | 114 => exact hc_qj h5 (by decide)
  | 115 => exact hc_qj h5 (by decide)
  | 116 => exact hc_qj h5 (by decide)
  | 117 => exact hc_qj h5 (by decide)
  | 118 => exact hc_o185 h4 h5 hD hG
  | 119 => exact hc_arL h5 (show lw_twC[186]? = some 209 by decide +kernel) rfl
  | 120 => exact hc_arL h5 (show lw_twC[187]? = some 210 by decide +kernel) rfl
  | 121 => exact hc_qj h5 (by decide)
  | 122 => exact hc_qj h5 (by decide)
  | 123 => exact hc_qj h5 (by decide)
  | 124 => exact hc_qj h5 (by decide)
  | 125 => exact hc_o192 h4 h5 hD hG
  | 126 => exact hc_arL h5 (show lw_twC[193]? = some 66 by decide +kernel) rfl
  | 127 => exact hc_arI h5 (show lw_twC[194]? = some 67 by decide +kernel) rfl (Or.inl rfl)
  | 128 => exact hc_arI h5 (show lw_twC[195]? = some 68 by decide +kernel) rfl (Or.inl rfl)
  | 129 => exact hc_arI h5 (show lw_twC[196]? = some 69 by decide +kernel) rfl (Or.inl rfl)
  | 130 => exact hc_arI h5 (show lw_twC[197]? = some 70 by decide +kernel) rfl (Or.inl rfl)
  | 131 => exact hc_o198 h4 h5 hD hG
  | 132 => exact hc_arI h5 (show lw_twC[199]? = some 72 by decide +kernel) rfl (Or.inl rfl)
  | 133 => exact hc_arI h5 (show lw_twC[200]? = some 73 by decide +kernel) rfl (Or.inl rfl)
  | 134 => exact hc_arI h5 (show lw_twC[201]? = some 74 by decide +kernel) rfl (Or.inl rfl)
  | 135 => exact hc_arI h5 (show lw_twC[202]? = some 75 by decide +kernel) rfl (Or.inl rfl)
  | 136 => exact hc_o203 h4 h5 hD hG
  | 137 => exact hc_arL h5 (show lw_twC[204]? = some 77 by decide +kernel) rfl
  | 138 => exact hc_arI h5 (show lw_twC[205]? = some 78 by decide +kernel) rfl (Or.inl rfl)
  | 139 => exact hc_arI h5 (show lw_twC[206]? = some 79 by decide +kernel) rfl (Or.inl rfl)
  | 140 => exact hc_arI h5 (show lw_twC[207]? = some 80 by decide +kernel) rfl (Or.inl rfl)
  | 141 => exact hc_arI h5 (show lw_twC[208]? = some 81 by decide +kernel) rfl (Or.inl rfl)
  | 142 => exact hc_arI h5 (show lw_twC[209]? = some 82 by decide +kernel) rfl (Or.inl rfl)
  | 143 => exact hc_arI h5 (show lw_twC[210]? = some 83 by decide +kernel) rfl (Or.inl rfl)
  | 144 => exact hc_o211 h4 h5 hD hG
  | 145 => exact hc_arI h5 (show lw_twC[212]? = some 85 by decide +kernel) rfl (Or.inl rfl)
  | 146 => exact hc_arI h5 (show lw_twC[213]? = some 86 by decide +kernel) rfl (Or.inl rfl)
  | 147 => exact hc_arI h5 (show lw_twC[214]? = some 87 by decide +kernel) rfl (Or.inl rfl)
  | 148 => exact hc_arI h5 (show lw_twC[215]? = some 88 by decide +kernel) rfl (Or.inl rfl)
  | 149 => exact hc_arI h5 (show lw_twC[216]? = some 89 by decide +kernel) rfl (Or.inl rfl)
  | 150 => exact hc_arI h5 (show lw_twC[217]? = some 90 by decide +kernel) rfl (Or.inl rfl)
  | 151 => exact hc_o218 h4 h5 hD hG
  | 152 => exact hc_arL h5 (show lw_twC[219]? = some 66 by decide +kernel) rfl
  | 153 => exact hc_arI h5 (show lw_twC[220]? = some 67 by decide +kernel) rfl (Or.inl rfl)
  | 154 => exact hc_arI h5 (show lw_twC[221]? = some 68 by decide +kernel) rfl (Or.inl rfl)
  | 155 => exact hc_arI h5 (show lw_twC[222]? = some 69 by decide +kernel) rfl (Or.inl rfl)
  | 156 => exact hc_arI h5 (show lw_twC[223]? = some 70 by decide +kernel) rfl (Or.inl rfl)
  | 157 => exact hc_o224 h4 h5 hD hG
  | 158 => exact hc_arI h5 (show lw_twC[225]? = some 72 by decide +kernel) rfl (Or.inl rfl)
  | 159 => exact hc_arI h5 (show lw_twC[226]? = some 73 by decide +kernel) rfl (Or.inl rfl)
  | 160 => exact hc_arI h5 (show lw_twC[227]? = some 74 by decide +kernel) rfl (Or.inl rfl)
  | 161 => exact hc_arI h5 (show lw_twC[228]? = some 75 by decide +kernel) rfl (Or.inl rfl)
  | 162 => exact hc_o229 h4 h5 hD hG
  | 163 => exact hc_arL h5 (show lw_twC[230]? = some 77 by decide +kernel) rfl
  | 164 => exact hc_arI h5 (show lw_twC[231]? = some 78 by decide +kernel) rfl (Or.inl rfl)
  | 165 => exact hc_arI h5 (show lw_twC[232]? = some 79 by decide +kernel) rfl (Or.inl rfl)
  | 166 => exact hc_arI h5 (show lw_twC[233]? = some 80 by decide +kernel) rfl (Or.inl rfl)
  | 167 => exact hc_arI h5 (show lw_twC[234]? = some 81 by decide +kernel) rfl (Or.inl rfl)
  | 168 => exact hc_arI h5 (show lw_twC[235]? = some 82 by decide +kernel) rfl (Or.inl rfl)
  | 169 => exact hc_arI h5 (show lw_twC[236]? = some 83 by decide +kernel) rfl (Or.inl rfl)
  | 170 => exact hc_o237 h4 h5 hD hG
  | 171 => exact hc_arI h5 (show lw_twC[238]? = some 85 by decide +kernel) rfl (Or.inl rfl)
  | 172 => exact hc_arI h5 (show lw_twC[239]? = some 86 by decide +kernel) rfl (Or.inl rfl)
  | 173 => exact hc_arI h5 (show lw_twC[240]? = some 87 by decide +kernel) rfl (Or.inl rfl)
  | 174 => exact hc_arI h5 (show lw_twC[241]? = some 88 by decide +kernel) rfl (Or.inl rfl)
  | 175 => exact hc_arI h5 (show lw_twC[242]? = some 89 by decide +kernel) rfl (Or.inl rfl)
  | 176 => exact hc_arI h5 (show lw_twC[243]? = some 90 by decide +kernel) rfl (Or.inl rfl)
  | 177 => exact hc_o244 h4 h5 hD hG
  | 178 => exact hc_arL h5 (show lw_twC[245]? = some 66 by decide +kernel) rfl
  | 179 => exact hc_arI h5 (show lw_twC[246]? = some 67 by decide +kernel) rfl (Or.inl rfl)
  | 180 => exact hc_arI h5 (show lw_twC[247]? = some 68 by decide +kernel) rfl (Or.inl rfl)
  | 181 => exact hc_arI h5 (show lw_twC[248]? = some 69 by decide +kernel) rfl (Or.inl rfl)
  | 182 => exact hc_arI h5 (show lw_twC[249]? = some 70 by decide +kernel) rfl (Or.inl rfl)
  | 183 => exact hc_o250 h4 h5 hD hG
  | 184 => exact hc_arI h5 (show lw_twC[251]? = some 72 by decide +kernel) rfl (Or.inl rfl)
  | 185 => exact hc_arI h5 (show lw_twC[252]? = some 73 by decide +kernel) rfl (Or.inl rfl)
  | 186 => exact hc_arI h5 (show lw_twC[253]? = some 74 by decide +kernel) rfl (Or.inl rfl)
  | 187 => exact hc_arI h5 (show lw_twC[254]? = some 75 by decide +kernel) rfl (Or.inl rfl)
  | 188 => exact hc_o255 h4 h5 hD hG
  | 189 => exact hc_arL h5 (show lw_twC[256]? = some 77 by decide +kernel) rfl
  | 190 => exact hc_arI h5 (show lw_twC[257]? = some 78 by decide +kernel) rfl (Or.inl rfl)
  | 191 => exact hc_arI h5 (show lw_twC[258]? = some 79 by decide +kernel) rfl (Or.inl rfl)
  | 192 => exact hc_arI h5 (show lw_twC[259]? = some 80 by decide +kernel) rfl (Or.inl rfl)
  | 193 => exact hc_arI h5 (show lw_twC[260]? = some 81 by decide +kernel) rfl (Or.inl rfl)
  | 194 => exact hc_arI h5 (show lw_twC[261]? = some 82 by decide +kernel) rfl (Or.inl rfl)
  | 195 => exact hc_arI h5 (show lw_twC[262]? = some 83 by decide +kernel) rfl (Or.inl rfl)
  | 196 => exact hc_o263 h4 h5 hD hG
  | 197 => exact hc_arI h5 (show lw_twC[264]? = some 85 by decide +kernel) rfl (Or.inl rfl)
  | 198 => exact hc_arI h5 (show lw_twC[265]? = some 86 by decide +kernel) rfl (Or.inl rfl)
  | 199 => exact hc_arI h5 (show lw_twC[266]? = some 87 by decide +kernel) rfl (Or.inl rfl)
  | 200 => exact hc_arI h5 (show lw_twC[267]? = some 88 by decide +kernel) rfl (Or.inl rfl)
  | 201 => exact hc_arI h5 (show lw_twC[268]? = some 89 by decide +kernel) rfl (Or.inl rfl)
  | 202 => exact hc_arI h5 (show lw_twC[269]? = some 90 by decide +kernel) rfl (Or.inl rfl)
  | i + 203 =>
    show (hc_mem ads lw_twC ws)[67 + (i + 203)]? = ((hc_mem ads lw_twC ws).drop 270)[i]?
    rw [List.getElem?_drop, show 67 + (i + 203) = 270 + i from by omega]
theorem hc_cx (h4 : ws.map Prod.fst = ads) (h5 : rk_A2 (fun b (q : Nat × va_E) => tk_cl gc_TY lc_ro ads lw_twC U b q.2) lw_twC ws) (hD : va_D (fun _ => True) ws) (hG : gs ws) (hX : gx ws) : hc_mem ads lw_twC ws = cx (cg ws) (cl_ ws) (ca ws) (cb ws) (hc_q ads ws, (hc_mem ads lw_twC ws).drop 270) := by
  have h := hc_cm h4 h5 hD hG
  rw [hc_cR h4 h5 hD hX] at h
  exact h
end HCX
