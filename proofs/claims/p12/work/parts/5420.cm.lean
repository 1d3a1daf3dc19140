/-! ===== the class's first cells: one literal memory ===== -/
/-- int fields by object, long fields, rows of ints, of longs: what stands in a world -/
def cg (ws : va_W) (j k : Nat) : Int32 := match ws[j]? with
  | some (_, .inr o) => (match o.2[k]? with
    | some (.int x) => x
    | _ => 0)
  | _ => 0
def cl_ (ws : va_W) (j k : Nat) : Int64 := match ws[j]? with
  | some (_, .inr o) => (match o.2[k]? with
    | some (.long x) => x
    | _ => 0)
  | _ => 0
def ca (ws : va_W) (j : Nat) : Nat → Int32 := match ws[j]? with
  | some (_, .inl (_, _, .inl f)) => f
  | _ => fun _ => 0
def cb (ws : va_W) (j : Nat) : Nat → Int64 := match ws[j]? with
  | some (_, .inl (_, _, .inr (.inl f))) => f
  | _ => fun _ => 0
def co0 (g : Nat → Int32) (l : Nat → Int64) : List Value := [.int (g 0), .long (l 1), .long (l 2), .ref 1, .ref 6, .ref 7, .ref 8, .ref 9, .ref 12, .ref 13, .ref 15, .ref 41, .ref 67, .int (g 13), .ref 68, .ref 73, .ref 185, .ref 188, .ref 191, .int (g 19)]
def co9 (g : Nat → Int32) (l : Nat → Int64) : List Value := [.ref 10, .ref 11, .int (g 2), .int (g 3), .int (g 4), .int (g 5), .int (g 6), .int (g 7), .long (l 8), .int (g 9), .int (g 10), .int (g 11)]
def co12 (g : Nat → Int32) (l : Nat → Int64) : List Value := [.ref 9, .int (g 1)]
def co13 (g : Nat → Int32) (l : Nat → Int64) : List Value := [.ref 9, .ref 14, .int (g 2)]
def co15 (g : Nat → Int32) (l : Nat → Int64) : List Value := [.ref 16, .ref 17, .ref 18, .ref 19, .ref 20, .ref 21, .ref 26, .ref 34, .int (g 8), .int (g 9), .int (g 10), .int (g 11), .int (g 12), .int (g 13)]
def co21 (g : Nat → Int32) (l : Nat → Int64) : List Value := [.ref 22, .ref 23, .ref 24, .ref 25, .int (g 4), .int (g 5)]
def co26 (g : Nat → Int32) (l : Nat → Int64) : List Value := [.ref 27, .ref 28, .ref 29, .ref 30, .ref 31, .ref 32, .ref 33, .int (g 7), .int (g 8), .int (g 9)]
def co34 (g : Nat → Int32) (l : Nat → Int64) : List Value := [.ref 35, .ref 36, .ref 37, .ref 38, .ref 39, .ref 40, .int (g 6), .int (g 7)]
def co41 (g : Nat → Int32) (l : Nat → Int64) : List Value := [.ref 42, .ref 43, .ref 44, .ref 45, .ref 46, .ref 47, .ref 52, .ref 60, .int (g 8), .int (g 9), .int (g 10), .int (g 11), .int (g 12), .int (g 13)]
def co47 (g : Nat → Int32) (l : Nat → Int64) : List Value := [.ref 48, .ref 49, .ref 50, .ref 51, .int (g 4), .int (g 5)]
def co52 (g : Nat → Int32) (l : Nat → Int64) : List Value := [.ref 53, .ref 54, .ref 55, .ref 56, .ref 57, .ref 58, .ref 59, .int (g 7), .int (g 8), .int (g 9)]
def co60 (g : Nat → Int32) (l : Nat → Int64) : List Value := [.ref 61, .ref 62, .ref 63, .ref 64, .ref 65, .ref 66, .int (g 6), .int (g 7)]
def cr1 : Nat → Option Nat := fun i => if i < 4 then some (2 + i) else none
def cm (g : Nat → Nat → Int32) (l : Nat → Nat → Int64) (a : Nat → Nat → Int32) (b : Nat → Nat → Int64) (R : fx_M) : fx_M := .inl (11, co0 (g 0) (l 0)) :: .inr (.array .long, 4, .inr (.inr (.inr (.inr cr1)))) :: .inr (.long, 60, .inr (.inl (b 2))) :: .inr (.long, 60, .inr (.inl (b 3))) :: .inr (.long, 60, .inr (.inl (b 4))) :: .inr (.long, 60, .inr (.inl (b 5))) :: .inr (.int, 4, .inl (a 6)) :: .inr (.int, 4, .inl (a 7)) :: .inr (.int, 20, .inl (a 8)) :: .inl (8, co9 (g 9) (l 9)) :: .inr (.byte, 900, .inl (a 10)) :: .inr (.long, 23, .inr (.inl (b 11))) :: .inl (4, co12 (g 12) (l 12)) :: .inl (10, co13 (g 13) (l 13)) :: .inr (.int, 3, .inl (a 14)) :: .inl (3, co15 (g 15) (l 15)) :: .inr (.long, 10, .inr (.inl (b 16))) :: .inr (.int, 10, .inl (a 17)) :: .inr (.int, 10, .inl (a 18)) :: .inr (.int, 10, .inl (a 19)) :: .inr (.int, 10, .inl (a 20)) :: .inl (2, co21 (g 21) (l 21)) :: .inr (.int, 10, .inl (a 22)) :: .inr (.int, 10, .inl (a 23)) :: .inr (.int, 10, .inl (a 24)) :: .inr (.int, 200, .inl (a 25)) :: .inl (0, co26 (g 26) (l 26)) :: .inr (.long, 8, .inr (.inl (b 27))) :: .inr (.int, 8, .inl (a 28)) :: .inr (.int, 8, .inl (a 29)) :: .inr (.int, 8, .inl (a 30)) :: .inr (.int, 8, .inl (a 31)) :: .inr (.int, 8, .inl (a 32)) :: .inr (.int, 160, .inl (a 33)) :: .inl (9, co34 (g 34) (l 34)) :: .inr (.int, 30, .inl (a 35)) :: .inr (.int, 30, .inl (a 36)) :: .inr (.int, 30, .inl (a 37)) :: .inr (.int, 30, .inl (a 38)) :: .inr (.int, 30, .inl (a 39)) :: .inr (.int, 30, .inl (a 40)) :: .inl (3, co41 (g 41) (l 41)) :: .inr (.long, 10, .inr (.inl (b 42))) :: .inr (.int, 10, .inl (a 43)) :: .inr (.int, 10, .inl (a 44)) :: .inr (.int, 10, .inl (a 45)) :: .inr (.int, 10, .inl (a 46)) :: .inl (2, co47 (g 47) (l 47)) :: .inr (.int, 10, .inl (a 48)) :: .inr (.int, 10, .inl (a 49)) :: .inr (.int, 10, .inl (a 50)) :: .inr (.int, 200, .inl (a 51)) :: .inl (0, co52 (g 52) (l 52)) :: .inr (.long, 8, .inr (.inl (b 53))) :: .inr (.int, 8, .inl (a 54)) :: .inr (.int, 8, .inl (a 55)) :: .inr (.int, 8, .inl (a 56)) :: .inr (.int, 8, .inl (a 57)) :: .inr (.int, 8, .inl (a 58)) :: .inr (.int, 160, .inl (a 59)) :: .inl (9, co60 (g 60) (l 60)) :: .inr (.int, 30, .inl (a 61)) :: .inr (.int, 30, .inl (a 62)) :: .inr (.int, 30, .inl (a 63)) :: .inr (.int, 30, .inl (a 64)) :: .inr (.int, 30, .inl (a 65)) :: .inr (.int, 30, .inl (a 66)) :: R
/-- references that never change -/
def gs_L : List (Nat × Nat × Nat) := [(0, 3, 1), (0, 4, 6), (0, 5, 7), (0, 6, 8), (0, 7, 9), (0, 8, 12), (0, 9, 13), (0, 10, 15), (0, 11, 41), (0, 12, 67), (0, 14, 68), (0, 15, 73), (0, 16, 185), (0, 17, 188), (0, 18, 191), (9, 0, 10), (9, 1, 11), (12, 0, 9), (13, 0, 9), (13, 1, 14), (15, 0, 16), (15, 1, 17), (15, 2, 18), (15, 3, 19), (15, 4, 20), (15, 5, 21), (15, 6, 26), (15, 7, 34), (21, 0, 22), (21, 1, 23), (21, 2, 24), (21, 3, 25), (26, 0, 27), (26, 1, 28), (26, 2, 29), (26, 3, 30), (26, 4, 31), (26, 5, 32), (26, 6, 33), (34, 0, 35), (34, 1, 36), (34, 2, 37), (34, 3, 38), (34, 4, 39), (34, 5, 40), (41, 0, 42), (41, 1, 43), (41, 2, 44), (41, 3, 45), (41, 4, 46), (41, 5, 47), (41, 6, 52), (41, 7, 60), (47, 0, 48), (47, 1, 49), (47, 2, 50), (47, 3, 51), (52, 0, 53), (52, 1, 54), (52, 2, 55), (52, 3, 56), (52, 4, 57), (52, 5, 58), (52, 6, 59), (60, 0, 61), (60, 1, 62), (60, 2, 63), (60, 3, 64), (60, 4, 65), (60, 5, 66), (1, 0, 2), (1, 1, 3), (1, 2, 4), (1, 3, 5)]
def gs (ws : va_W) : Prop := ∀ z ∈ gs_L, lw_at ws (z.1, z.2.1) = (ws[z.2.2]?).map (fun q => Value.ref q.1)
section HCM
variable {ads : List Nat} {ws : va_W} {U : State}
theorem hc_bk_ref (h4 : ws.map Prod.fst = ads) (hD : va_D (fun _ => True) ws) {k : Nat} {v : Value} (h : some v = (ws[k]?).map (fun q => Value.ref q.1)) : hc_bk ads v = .ref k := by
  cases hk : ws[k]? with
  | none => rw [hk] at h; cases h
  | some q =>
    rw [hk] at h
    have h : some v = some (Value.ref q.1) := h
    cases h
    show Value.ref (hc_ix ads q.1) = .ref k
    rw [hc_ix_at (j := k) (fun i m x hi hm => ?_) (by rw [← h4, List.getElem?_map, hk]; rfl)]
    rw [← h4, List.getElem?_map] at hi hm
    obtain ⟨p1, e1, e2⟩ := Option.map_eq_some_iff.mp hi
    obtain ⟨p2, e3, e4⟩ := Option.map_eq_some_iff.mp hm
    exact hD.1 i m p1 p2 e1 e3 (e2.trans e4.symm)
/-- an object's cell -/
theorem hc_obj (h4 : ws.map Prod.fst = ads) (h5 : rk_A2 (fun b (q : Nat × va_E) => tk_cl gc_TY lc_ro ads lw_twC U b q.2) lw_twC ws) {j t ci : Nat} {fs : List tk_F} (ht : lw_twC[j]? = some t) (hk : gc_ty[t]? = some (.inl (ci, fs))) : ∃ (y : Nat) (vs : List Value), ws[j]? = some (y, .inr (ci, vs)) ∧ vs.length = fs.length ∧ ∀ (i : Nat) (f : tk_F) (v : Value), fs[i]? = some f → vs[i]? = some v → tk_fv lc_ro gc_TY.2.1 ads lw_twC t i f v := by
  obtain ⟨q, hq, hc⟩ := h5.get ht
  unfold tk_cl at hc
  rw [show gc_TY.1[t]? = _ from hk] at hc
  obtain ⟨vs, e, hl, hvs⟩ := hc
  exact ⟨q.1, vs, by rw [hq, ← e], hl, hvs⟩
theorem hc_fi {j i y ci t : Nat} {vs : List Value} {fs : List tk_F} {lo hi : Int} (hw : ws[j]? = some (y, .inr (ci, vs))) (hl : vs.length = fs.length) (hvs : ∀ (i : Nat) (f : tk_F) (v : Value), fs[i]? = some f → vs[i]? = some v → tk_fv lc_ro gc_TY.2.1 ads lw_twC t i f v) (hf : fs[i]? = some (0, lo, hi)) : vs[i]? = some (.int (cg ws j i)) := by
  have hlt : i < vs.length := by rw [hl]; exact (List.getElem?_eq_some_iff.mp hf).1
  obtain ⟨x, hx, -⟩ : ∃ x : Int32, vs[i] = .int x ∧ _ := hvs i _ _ hf (List.getElem?_eq_getElem hlt)
  unfold cg
  rw [hw]
  dsimp only
  rw [List.getElem?_eq_getElem hlt, hx]
theorem hc_fl {j i y ci t : Nat} {vs : List Value} {fs : List tk_F} {lo hi : Int} (hw : ws[j]? = some (y, .inr (ci, vs))) (hl : vs.length = fs.length) (hvs : ∀ (i : Nat) (f : tk_F) (v : Value), fs[i]? = some f → vs[i]? = some v → tk_fv lc_ro gc_TY.2.1 ads lw_twC t i f v) (hf : fs[i]? = some (1, lo, hi)) : vs[i]? = some (.long (cl_ ws j i)) := by
  have hlt : i < vs.length := by rw [hl]; exact (List.getElem?_eq_some_iff.mp hf).1
  obtain ⟨x, hx, -⟩ : ∃ x : Int64, vs[i] = .long x ∧ _ := hvs i _ _ hf (List.getElem?_eq_getElem hlt)
  unfold cl_
  rw [hw]
  dsimp only
  rw [List.getElem?_eq_getElem hlt, hx]
theorem hc_fr (h4 : ws.map Prod.fst = ads) (hD : va_D (fun _ => True) ws) (hG : gs ws) {j i k y ci : Nat} {vs : List Value} (hw : ws[j]? = some (y, .inr (ci, vs))) (hz : (j, i, k) ∈ gs_L) (hlt : i < vs.length) : (vs.map (hc_bk ads))[i]? = some (.ref k) := by
  have h := hG _ hz
  unfold lw_at at h
  dsimp only at h
  rw [hw] at h
  have h : vs[i]? = (ws[k]?).map (fun q => Value.ref q.1) := h
  rw [List.getElem?_map]
  rw [List.getElem?_eq_getElem hlt] at h ⊢
  show some (hc_bk ads vs[i]) = _
  rw [hc_bk_ref h4 hD h]
theorem hc_fm {i : Nat} {v : Value} {vs : List Value} (h : vs[i]? = some v) (hv : hc_bk ads v = v) : (vs.map (hc_bk ads))[i]? = some v := by
  rw [List.getElem?_map, h]
  show some (hc_bk ads v) = _
  rw [hv]
theorem hc_arI (h5 : rk_A2 (fun b (q : Nat × va_E) => tk_cl gc_TY lc_ro ads lw_twC U b q.2) lw_twC ws) {j t n : Nat} {kd : FieldType} {fl : tk_F} (ht : lw_twC[j]? = some t) (hk : gc_ty[t]? = some (.inr (kd, n, fl))) (hkd : kd = .int ∨ kd = .byte) : (hc_mem ads lw_twC ws)[j]? = some (.inr (kd, n, .inl (ca ws j))) := by
  obtain ⟨q, hq, hc⟩ := h5.get ht
  unfold tk_cl at hc
  rw [show gc_TY.1[t]? = _ from hk] at hc
  obtain ⟨cA, -, -, h3⟩ := hc
  obtain ⟨f, e⟩ : ∃ f, q.2 = .inl (cA, n, .inl f) := by
    unfold tk_ar at h3
    rcases hkd with rfl | rfl
    · obtain ⟨f, e, -⟩ := h3; exact ⟨f, e⟩
    · obtain ⟨f, e, -⟩ := h3; exact ⟨f, e⟩
  rw [hc_mem_at hq ht, e]
  have e2 : ca ws j = f := by
    unfold ca
    rw [hq, show q = (q.1, q.2) from rfl, e]
  rw [e2]
  show some (Sum.inr (hc_ft t, (n, Sum.inl f)) : fx_E) = _
  rw [show hc_ft t = kd from by unfold hc_ft; rw [hk]]
theorem hc_arL (h5 : rk_A2 (fun b (q : Nat × va_E) => tk_cl gc_TY lc_ro ads lw_twC U b q.2) lw_twC ws) {j t n : Nat} {fl : tk_F} (ht : lw_twC[j]? = some t) (hk : gc_ty[t]? = some (.inr (.long, n, fl))) : (hc_mem ads lw_twC ws)[j]? = some (.inr (.long, n, .inr (.inl (cb ws j)))) := by
  obtain ⟨q, hq, hc⟩ := h5.get ht
  unfold tk_cl at hc
  rw [show gc_TY.1[t]? = _ from hk] at hc
  obtain ⟨cA, -, -, h3⟩ := hc
  obtain ⟨f, e, -⟩ := (show ∃ f : Nat → Int64, q.2 = .inl (cA, n, .inr (.inl f)) ∧ _ from h3)
  rw [hc_mem_at hq ht, e]
  have e2 : cb ws j = f := by
    unfold cb
    rw [hq, show q = (q.1, q.2) from rfl, e]
  rw [e2]
  show some (Sum.inr (hc_ft t, (n, Sum.inr (Sum.inl f))) : fx_E) = _
  rw [show hc_ft t = .long from by unfold hc_ft; rw [hk]]
theorem hc_ar1 (h4 : ws.map Prod.fst = ads) (h5 : rk_A2 (fun b (q : Nat × va_E) => tk_cl gc_TY lc_ro ads lw_twC U b q.2) lw_twC ws) (hD : va_D (fun _ => True) ws) (hG : gs ws) : (hc_mem ads lw_twC ws)[1]? = some (.inr (.array .long, 4, .inr (.inr (.inr (.inr cr1))))) := by
  have ht : lw_twC[1]? = some 1 := by decide +kernel
  obtain ⟨q, hq, hc⟩ := h5.get ht
  unfold tk_cl at hc
  rw [show gc_TY.1[1]? = some (.inr (.array .long, 4, (2, 2, 0))) from rfl] at hc
  obtain ⟨cA, -, -, h3⟩ := hc
  obtain ⟨f, e, -⟩ := (show ∃ f : Nat → Option Nat, q.2 = .inl (cA, 4, .inr (.inr (.inr (.inr f)))) ∧ _ from h3)
  rw [hc_mem_at hq ht, e]
  have e2 : hc_ad ads 4 f = cr1 := by
    funext i
    unfold hc_ad cr1
    by_cases hi : i < 4
    · rw [if_pos hi, if_pos hi]
      have hz : (1, i, 2 + i) ∈ gs_L := by
        rcases (by omega : i = 0 ∨ i = 1 ∨ i = 2 ∨ i = 3) with rfl | rfl | rfl | rfl <;> decide
      have h := hG _ hz
      unfold lw_at at h
      dsimp only at h
      rw [hq, show q = (q.1, q.2) from rfl, e] at h
      have h : (if i < 4 then some (va_rf (f i)) else none) = (ws[2 + i]?).map (fun q => Value.ref q.1) := h
      rw [if_pos hi] at h
      have h2 := hc_bk_ref h4 hD h
      cases hf : f i with
      | none => rw [hf] at h2; cases h2
      | some y =>
        rw [hf] at h2
        have h2 : Value.ref (hc_ix ads y) = .ref (2 + i) := h2
        show some (hc_ix ads y) = _
        rw [Value.ref.inj h2]
    · rw [if_neg hi, if_neg hi]
  show some (Sum.inr (hc_ft 1, (4, Sum.inr (Sum.inr (Sum.inr (Sum.inr (hc_ad ads 4 f)))))) : fx_E) = _
  rw [e2]
  rfl
theorem hc_o0 (h4 : ws.map Prod.fst = ads) (h5 : rk_A2 (fun b (q : Nat × va_E) => tk_cl gc_TY lc_ro ads lw_twC U b q.2) lw_twC ws) (hD : va_D (fun _ => True) ws) (hG : gs ws) : (hc_mem ads lw_twC ws)[0]? = some (.inl (11, co0 (cg ws 0) (cl_ ws 0))) := by
  have ht : lw_twC[0]? = some 0 := by decide +kernel
  obtain ⟨y, vs, hw, hl, hvs⟩ := hc_obj h4 h5 ht rfl
  have hl2 : vs.length = 20 := hl
  rw [hc_mem_at hw ht]
  show some (Sum.inl (11, vs.map (hc_bk ads)) : fx_E) = _
  have e : vs.map (hc_bk ads) = co0 (cg ws 0) (cl_ ws 0) := by
    apply List.ext_getElem?
    intro i
    match i with
    | 0 => exact hc_fm (hc_fi hw hl hvs rfl) rfl
    | 1 => exact hc_fm (hc_fl hw hl hvs rfl) rfl
    | 2 => exact hc_fm (hc_fl hw hl hvs rfl) rfl
    | 3 => exact hc_fr h4 hD hG hw (by decide) (by omega)
    | 4 => exact hc_fr h4 hD hG hw (by decide) (by omega)
    | 5 => exact hc_fr h4 hD hG hw (by decide) (by omega)
    | 6 => exact hc_fr h4 hD hG hw (by decide) (by omega)
    | 7 => exact hc_fr h4 hD hG hw (by decide) (by omega)
    | 8 => exact hc_fr h4 hD hG hw (by decide) (by omega)
    | 9 => exact hc_fr h4 hD hG hw (by decide) (by omega)
    | 10 => exact hc_fr h4 hD hG hw (by decide) (by omega)
    | 11 => exact hc_fr h4 hD hG hw (by decide) (by omega)
    | 12 => exact hc_fr h4 hD hG hw (by decide) (by omega)
    | 13 => exact hc_fm (hc_fi hw hl hvs rfl) rfl
    | 14 => exact hc_fr h4 hD hG hw (by decide) (by omega)
    | 15 => exact hc_fr h4 hD hG hw (by decide) (by omega)
    | 16 => exact hc_fr h4 hD hG hw (by decide) (by omega)
    | 17 => exact hc_fr h4 hD hG hw (by decide) (by omega)
    | 18 => exact hc_fr h4 hD hG hw (by decide) (by omega)
    | 19 => exact hc_fm (hc_fi hw hl hvs rfl) rfl
    | i + 20 => rw [List.getElem?_eq_none (by rw [List.length_map]; omega), List.getElem?_eq_none (by show 20 ≤ i + 20; omega)]
  rw [e]
theorem hc_o9 (h4 : ws.map Prod.fst = ads) (h5 : rk_A2 (fun b (q : Nat × va_E) => tk_cl gc_TY lc_ro ads lw_twC U b q.2) lw_twC ws) (hD : va_D (fun _ => True) ws) (hG : gs ws) : (hc_mem ads lw_twC ws)[9]? = some (.inl (8, co9 (cg ws 9) (cl_ ws 9))) := by
  have ht : lw_twC[9]? = some 6 := by decide +kernel
  obtain ⟨y, vs, hw, hl, hvs⟩ := hc_obj h4 h5 ht rfl
  have hl2 : vs.length = 12 := hl
  rw [hc_mem_at hw ht]
  show some (Sum.inl (8, vs.map (hc_bk ads)) : fx_E) = _
  have e : vs.map (hc_bk ads) = co9 (cg ws 9) (cl_ ws 9) := by
    apply List.ext_getElem?
    intro i
    match i with
    | 0 => exact hc_fr h4 hD hG hw (by decide) (by omega)
    | 1 => exact hc_fr h4 hD hG hw (by decide) (by omega)
    | 2 => exact hc_fm (hc_fi hw hl hvs rfl) rfl
    | 3 => exact hc_fm (hc_fi hw hl hvs rfl) rfl
    | 4 => exact hc_fm (hc_fi hw hl hvs rfl) rfl
    | 5 => exact hc_fm (hc_fi hw hl hvs rfl) rfl
    | 6 => exact hc_fm (hc_fi hw hl hvs rfl) rfl
    | 7 => exact hc_fm (hc_fi hw hl hvs rfl) rfl
    | 8 => exact hc_fm (hc_fl hw hl hvs rfl) rfl
    | 9 => exact hc_fm (hc_fi hw hl hvs rfl) rfl
    | 10 => exact hc_fm (hc_fi hw hl hvs rfl) rfl
    | 11 => exact hc_fm (hc_fi hw hl hvs rfl) rfl
    | i + 12 => rw [List.getElem?_eq_none (by rw [List.length_map]; omega), List.getElem?_eq_none (by show 12 ≤ i + 12; omega)]
  rw [e]
theorem hc_o12 (h4 : ws.map Prod.fst = ads) (h5 : rk_A2 (fun b (q : Nat × va_E) => tk_cl gc_TY lc_ro ads lw_twC U b q.2) lw_twC ws) (hD : va_D (fun _ => True) ws) (hG : gs ws) : (hc_mem ads lw_twC ws)[12]? = some (.inl (4, co12 (cg ws 12) (cl_ ws 12))) := by
  have ht : lw_twC[12]? = some 9 := by decide +kernel
  obtain ⟨y, vs, hw, hl, hvs⟩ := hc_obj h4 h5 ht rfl
  have hl2 : vs.length = 2 := hl
  rw [hc_mem_at hw ht]
  show some (Sum.inl (4, vs.map (hc_bk ads)) : fx_E) = _
  have e : vs.map (hc_bk ads) = co12 (cg ws 12) (cl_ ws 12) := by
    apply List.ext_getElem?
    intro i
    match i with
    | 0 => exact hc_fr h4 hD hG hw (by decide) (by omega)
    | 1 => exact hc_fm (hc_fi hw hl hvs rfl) rfl
    | i + 2 => rw [List.getElem?_eq_none (by rw [List.length_map]; omega), List.getElem?_eq_none (by show 2 ≤ i + 2; omega)]
  rw [e]
theorem hc_o13 (h4 : ws.map Prod.fst = ads) (h5 : rk_A2 (fun b (q : Nat × va_E) => tk_cl gc_TY lc_ro ads lw_twC U b q.2) lw_twC ws) (hD : va_D (fun _ => True) ws) (hG : gs ws) : (hc_mem ads lw_twC ws)[13]? = some (.inl (10, co13 (cg ws 13) (cl_ ws 13))) := by
  have ht : lw_twC[13]? = some 10 := by decide +kernel
  obtain ⟨y, vs, hw, hl, hvs⟩ := hc_obj h4 h5 ht rfl
  have hl2 : vs.length = 3 := hl
  rw [hc_mem_at hw ht]
  show some (Sum.inl (10, vs.map (hc_bk ads)) : fx_E) = _
  have e : vs.map (hc_bk ads) = co13 (cg ws 13) (cl_ ws 13) := by
    apply List.ext_getElem?
    intro i
    match i with
    | 0 => exact hc_fr h4 hD hG hw (by decide) (by omega)
    | 1 => exact hc_fr h4 hD hG hw (by decide) (by omega)
    | 2 => exact hc_fm (hc_fi hw hl hvs rfl) rfl
    | i + 3 => rw [List.getElem?_eq_none (by rw [List.length_map]; omega), List.getElem?_eq_none (by show 3 ≤ i + 3; omega)]
  rw [e]
theorem hc_o15 (h4 : ws.map Prod.fst = ads) (h5 : rk_A2 (fun b (q : Nat × va_E) => tk_cl gc_TY lc_ro ads lw_twC U b q.2) lw_twC ws) (hD : va_D (fun _ => True) ws) (hG : gs ws) : (hc_mem ads lw_twC ws)[15]? = some (.inl (3, co15 (cg ws 15) (cl_ ws 15))) := by
  have ht : lw_twC[15]? = some 12 := by decide +kernel
  obtain ⟨y, vs, hw, hl, hvs⟩ := hc_obj h4 h5 ht rfl
  have hl2 : vs.length = 14 := hl
  rw [hc_mem_at hw ht]
  show some (Sum.inl (3, vs.map (hc_bk ads)) : fx_E) = _
  have e : vs.map (hc_bk ads) = co15 (cg ws 15) (cl_ ws 15) := by
    apply List.ext_getElem?
    intro i
    match i with
    | 0 => exact hc_fr h4 hD hG hw (by decide) (by omega)
    | 1 => exact hc_fr h4 hD hG hw (by decide) (by omega)
    | 2 => exact hc_fr h4 hD hG hw (by decide) (by omega)
    | 3 => exact hc_fr h4 hD hG hw (by decide) (by omega)
    | 4 => exact hc_fr h4 hD hG hw (by decide) (by omega)
    | 5 => exact hc_fr h4 hD hG hw (by decide) (by omega)
    | 6 => exact hc_fr h4 hD hG hw (by decide) (by omega)
    | 7 => exact hc_fr h4 hD hG hw (by decide) (by omega)
    | 8 => exact hc_fm (hc_fi hw hl hvs rfl) rfl
    | 9 => exact hc_fm (hc_fi hw hl hvs rfl) rfl
    | 10 => exact hc_fm (hc_fi hw hl hvs rfl) rfl
    | 11 => exact hc_fm (hc_fi hw hl hvs rfl) rfl
    | 12 => exact hc_fm (hc_fi hw hl hvs rfl) rfl
    | 13 => exact hc_fm (hc_fi hw hl hvs rfl) rfl
    | i + 14 => rw [List.getElem?_eq_none (by rw [List.length_map]; omega), List.getElem?_eq_none (by show 14 ≤ i + 14; omega)]
  rw [e]
theorem hc_o21 (h4 : ws.map Prod.fst = ads) (h5 : rk_A2 (fun b (q : Nat × va_E) => tk_cl gc_TY lc_ro ads lw_twC U b q.2) lw_twC ws) (hD : va_D (fun _ => True) ws) (hG : gs ws) : (hc_mem ads lw_twC ws)[21]? = some (.inl (2, co21 (cg ws 21) (cl_ ws 21))) := by
  have ht : lw_twC[21]? = some 18 := by decide +kernel
  obtain ⟨y, vs, hw, hl, hvs⟩ := hc_obj h4 h5 ht rfl
  have hl2 : vs.length = 6 := hl
  rw [hc_mem_at hw ht]
  show some (Sum.inl (2, vs.map (hc_bk ads)) : fx_E) = _
  have e : vs.map (hc_bk ads) = co21 (cg ws 21) (cl_ ws 21) := by
    apply List.ext_getElem?
    intro i
    match i with
    | 0 => exact hc_fr h4 hD hG hw (by decide) (by omega)
    | 1 => exact hc_fr h4 hD hG hw (by decide) (by omega)
    | 2 => exact hc_fr h4 hD hG hw (by decide) (by omega)
    | 3 => exact hc_fr h4 hD hG hw (by decide) (by omega)
    | 4 => exact hc_fm (hc_fi hw hl hvs rfl) rfl
    | 5 => exact hc_fm (hc_fi hw hl hvs rfl) rfl
    | i + 6 => rw [List.getElem?_eq_none (by rw [List.length_map]; omega), List.getElem?_eq_none (by show 6 ≤ i + 6; omega)]
  rw [e]
theorem hc_o26 (h4 : ws.map Prod.fst = ads) (h5 : rk_A2 (fun b (q : Nat × va_E) => tk_cl gc_TY lc_ro ads lw_twC U b q.2) lw_twC ws) (hD : va_D (fun _ => True) ws) (hG : gs ws) : (hc_mem ads lw_twC ws)[26]? = some (.inl (0, co26 (cg ws 26) (cl_ ws 26))) := by
  have ht : lw_twC[26]? = some 23 := by decide +kernel
  obtain ⟨y, vs, hw, hl, hvs⟩ := hc_obj h4 h5 ht rfl
  have hl2 : vs.length = 10 := hl
  rw [hc_mem_at hw ht]
  show some (Sum.inl (0, vs.map (hc_bk ads)) : fx_E) = _
  have e : vs.map (hc_bk ads) = co26 (cg ws 26) (cl_ ws 26) := by
    apply List.ext_getElem?
    intro i
    match i with
    | 0 => exact hc_fr h4 hD hG hw (by decide) (by omega)
    | 1 => exact hc_fr h4 hD hG hw (by decide) (by omega)
    | 2 => exact hc_fr h4 hD hG hw (by decide) (by omega)
    | 3 => exact hc_fr h4 hD hG hw (by decide) (by omega)
    | 4 => exact hc_fr h4 hD hG hw (by decide) (by omega)
    | 5 => exact hc_fr h4 hD hG hw (by decide) (by omega)
    | 6 => exact hc_fr h4 hD hG hw (by decide) (by omega)
    | 7 => exact hc_fm (hc_fi hw hl hvs rfl) rfl
    | 8 => exact hc_fm (hc_fi hw hl hvs rfl) rfl
    | 9 => exact hc_fm (hc_fi hw hl hvs rfl) rfl
    | i + 10 => rw [List.getElem?_eq_none (by rw [List.length_map]; omega), List.getElem?_eq_none (by show 10 ≤ i + 10; omega)]
  rw [e]
theorem hc_o34 (h4 : ws.map Prod.fst = ads) (h5 : rk_A2 (fun b (q : Nat × va_E) => tk_cl gc_TY lc_ro ads lw_twC U b q.2) lw_twC ws) (hD : va_D (fun _ => True) ws) (hG : gs ws) : (hc_mem ads lw_twC ws)[34]? = some (.inl (9, co34 (cg ws 34) (cl_ ws 34))) := by
  have ht : lw_twC[34]? = some 31 := by decide +kernel
  obtain ⟨y, vs, hw, hl, hvs⟩ := hc_obj h4 h5 ht rfl
  have hl2 : vs.length = 8 := hl
  rw [hc_mem_at hw ht]
  show some (Sum.inl (9, vs.map (hc_bk ads)) : fx_E) = _
  have e : vs.map (hc_bk ads) = co34 (cg ws 34) (cl_ ws 34) := by
    apply List.ext_getElem?
    intro i
    match i with
    | 0 => exact hc_fr h4 hD hG hw (by decide) (by omega)
    | 1 => exact hc_fr h4 hD hG hw (by decide) (by omega)
    | 2 => exact hc_fr h4 hD hG hw (by decide) (by omega)
    | 3 => exact hc_fr h4 hD hG hw (by decide) (by omega)
    | 4 => exact hc_fr h4 hD hG hw (by decide) (by omega)
    | 5 => exact hc_fr h4 hD hG hw (by decide) (by omega)
    | 6 => exact hc_fm (hc_fi hw hl hvs rfl) rfl
    | 7 => exact hc_fm (hc_fi hw hl hvs rfl) rfl
    | i + 8 => rw [List.getElem?_eq_none (by rw [List.length_map]; omega), List.getElem?_eq_none (by show 8 ≤ i + 8; omega)]
  rw [e]
theorem hc_o41 (h4 : ws.map Prod.fst = ads) (h5 : rk_A2 (fun b (q : Nat × va_E) => tk_cl gc_TY lc_ro ads lw_twC U b q.2) lw_twC ws) (hD : va_D (fun _ => True) ws) (hG : gs ws) : (hc_mem ads lw_twC ws)[41]? = some (.inl (3, co41 (cg ws 41) (cl_ ws 41))) := by
  have ht : lw_twC[41]? = some 38 := by decide +kernel
  obtain ⟨y, vs, hw, hl, hvs⟩ := hc_obj h4 h5 ht rfl
  have hl2 : vs.length = 14 := hl
  rw [hc_mem_at hw ht]
  show some (Sum.inl (3, vs.map (hc_bk ads)) : fx_E) = _
  have e : vs.map (hc_bk ads) = co41 (cg ws 41) (cl_ ws 41) := by
    apply List.ext_getElem?
    intro i
    match i with
    | 0 => exact hc_fr h4 hD hG hw (by decide) (by omega)
    | 1 => exact hc_fr h4 hD hG hw (by decide) (by omega)
    | 2 => exact hc_fr h4 hD hG hw (by decide) (by omega)
    | 3 => exact hc_fr h4 hD hG hw (by decide) (by omega)
    | 4 => exact hc_fr h4 hD hG hw (by decide) (by omega)
    | 5 => exact hc_fr h4 hD hG hw (by decide) (by omega)
    | 6 => exact hc_fr h4 hD hG hw (by decide) (by omega)
    | 7 => exact hc_fr h4 hD hG hw (by decide) (by omega)
    | 8 => exact hc_fm (hc_fi hw hl hvs rfl) rfl
    | 9 => exact hc_fm (hc_fi hw hl hvs rfl) rfl
    | 10 => exact hc_fm (hc_fi hw hl hvs rfl) rfl
    | 11 => exact hc_fm (hc_fi hw hl hvs rfl) rfl
    | 12 => exact hc_fm (hc_fi hw hl hvs rfl) rfl
    | 13 => exact hc_fm (hc_fi hw hl hvs rfl) rfl
    | i + 14 => rw [List.getElem?_eq_none (by rw [List.length_map]; omega), List.getElem?_eq_none (by show 14 ≤ i + 14; omega)]
  rw [e]
theorem hc_o47 (h4 : ws.map Prod.fst = ads) (h5 : rk_A2 (fun b (q : Nat × va_E) => tk_cl gc_TY lc_ro ads lw_twC U b q.2) lw_twC ws) (hD : va_D (fun _ => True) ws) (hG : gs ws) : (hc_mem ads lw_twC ws)[47]? = some (.inl (2, co47 (cg ws 47) (cl_ ws 47))) := by
  have ht : lw_twC[47]? = some 44 := by decide +kernel
  obtain ⟨y, vs, hw, hl, hvs⟩ := hc_obj h4 h5 ht rfl
  have hl2 : vs.length = 6 := hl
  rw [hc_mem_at hw ht]
  show some (Sum.inl (2, vs.map (hc_bk ads)) : fx_E) = _
  have e : vs.map (hc_bk ads) = co47 (cg ws 47) (cl_ ws 47) := by
    apply List.ext_getElem?
    intro i
    match i with
    | 0 => exact hc_fr h4 hD hG hw (by decide) (by omega)
    | 1 => exact hc_fr h4 hD hG hw (by decide) (by omega)
    | 2 => exact hc_fr h4 hD hG hw (by decide) (by omega)
    | 3 => exact hc_fr h4 hD hG hw (by decide) (by omega)
    | 4 => exact hc_fm (hc_fi hw hl hvs rfl) rfl
    | 5 => exact hc_fm (hc_fi hw hl hvs rfl) rfl
    | i + 6 => rw [List.getElem?_eq_none (by rw [List.length_map]; omega), List.getElem?_eq_none (by show 6 ≤ i + 6; omega)]
  rw [e]
theorem hc_o52 (h4 : ws.map Prod.fst = ads) (h5 : rk_A2 (fun b (q : Nat × va_E) => tk_cl gc_TY lc_ro ads lw_twC U b q.2) lw_twC ws) (hD : va_D (fun _ => True) ws) (hG : gs ws) : (hc_mem ads lw_twC ws)[52]? = some (.inl (0, co52 (cg ws 52) (cl_ ws 52))) := by
  have ht : lw_twC[52]? = some 49 := by decide +kernel
  obtain ⟨y, vs, hw, hl, hvs⟩ := hc_obj h4 h5 ht rfl
  have hl2 : vs.length = 10 := hl
  rw [hc_mem_at hw ht]
  show some (Sum.inl (0, vs.map (hc_bk ads)) : fx_E) = _
  have e : vs.map (hc_bk ads) = co52 (cg ws 52) (cl_ ws 52) := by
    apply List.ext_getElem?
    intro i
    match i with
    | 0 => exact hc_fr h4 hD hG hw (by decide) (by omega)
    | 1 => exact hc_fr h4 hD hG hw (by decide) (by omega)
    | 2 => exact hc_fr h4 hD hG hw (by decide) (by omega)
    | 3 => exact hc_fr h4 hD hG hw (by decide) (by omega)
    | 4 => exact hc_fr h4 hD hG hw (by decide) (by omega)
    | 5 => exact hc_fr h4 hD hG hw (by decide) (by omega)
    | 6 => exact hc_fr h4 hD hG hw (by decide) (by omega)
    | 7 => exact hc_fm (hc_fi hw hl hvs rfl) rfl
    | 8 => exact hc_fm (hc_fi hw hl hvs rfl) rfl
    | 9 => exact hc_fm (hc_fi hw hl hvs rfl) rfl
    | i + 10 => rw [List.getElem?_eq_none (by rw [List.length_map]; omega), List.getElem?_eq_none (by show 10 ≤ i + 10; omega)]
  rw [e]
theorem hc_o60 (h4 : ws.map Prod.fst = ads) (h5 : rk_A2 (fun b (q : Nat × va_E) => tk_cl gc_TY lc_ro ads lw_twC U b q.2) lw_twC ws) (hD : va_D (fun _ => True) ws) (hG : gs ws) : (hc_mem ads lw_twC ws)[60]? = some (.inl (9, co60 (cg ws 60) (cl_ ws 60))) := by
  have ht : lw_twC[60]? = some 57 := by decide +kernel
  obtain ⟨y, vs, hw, hl, hvs⟩ := hc_obj h4 h5 ht rfl
  have hl2 : vs.length = 8 := hl
  rw [hc_mem_at hw ht]
  show some (Sum.inl (9, vs.map (hc_bk ads)) : fx_E) = _
  have e : vs.map (hc_bk ads) = co60 (cg ws 60) (cl_ ws 60) := by
    apply List.ext_getElem?
    intro i
    match i with
    | 0 => exact hc_fr h4 hD hG hw (by decide) (by omega)
    | 1 => exact hc_fr h4 hD hG hw (by decide) (by omega)
    | 2 => exact hc_fr h4 hD hG hw (by decide) (by omega)
    | 3 => exact hc_fr h4 hD hG hw (by decide) (by omega)
    | 4 => exact hc_fr h4 hD hG hw (by decide) (by omega)
    | 5 => exact hc_fr h4 hD hG hw (by decide) (by omega)
    | 6 => exact hc_fm (hc_fi hw hl hvs rfl) rfl
    | 7 => exact hc_fm (hc_fi hw hl hvs rfl) rfl
    | i + 8 => rw [List.getElem?_eq_none (by rw [List.length_map]; omega), List.getElem?_eq_none (by show 8 ≤ i + 8; omega)]
  rw [e]
theorem hc_cm (h4 : ws.map Prod.fst = ads) (h5 : rk_A2 (fun b (q : Nat × va_E) => tk_cl gc_TY lc_ro ads lw_twC U b q.2) lw_twC ws) (hD : va_D (fun _ => True) ws) (hG : gs ws) : hc_mem ads lw_twC ws = cm (cg ws) (cl_ ws) (ca ws) (cb ws) ((hc_mem ads lw_twC ws).drop 67) := by
  apply List.ext_getElem?
  intro i
  match i with
  | 0 => exact hc_o0 h4 h5 hD hG
  | 1 => exact hc_ar1 h4 h5 hD hG
  | 2 => exact hc_arL h5 (show lw_twC[2]? = some 2 by decide +kernel) rfl
  | 3 => exact hc_arL h5 (show lw_twC[3]? = some 2 by decide +kernel) rfl
  | 4 => exact hc_arL h5 (show lw_twC[4]? = some 2 by decide +kernel) rfl
  | 5 => exact hc_arL h5 (show lw_twC[5]? = some 2 by decide +kernel) rfl
  | 6 => exact hc_arI h5 (show lw_twC[6]? = some 3 by decide +kernel) rfl (Or.inl rfl)
  | 7 => exact hc_arI h5 (show lw_twC[7]? = some 4 by decide +kernel) rfl (Or.inl rfl)
  | 8 => exact hc_arI h5 (show lw_twC[8]? = some 5 by decide +kernel) rfl (Or.inl rfl)
  | 9 => exact hc_o9 h4 h5 hD hG
  | 10 => exact hc_arI h5 (show lw_twC[10]? = some 7 by decide +kernel) rfl (Or.inr rfl)
  | 11 => exact hc_arL h5 (show lw_twC[11]? = some 8 by decide +kernel) rfl
  | 12 => exact hc_o12 h4 h5 hD hG
  | 13 => exact hc_o13 h4 h5 hD hG
  | 14 => exact hc_arI h5 (show lw_twC[14]? = some 11 by decide +kernel) rfl (Or.inl rfl)
  | 15 => exact hc_o15 h4 h5 hD hG
  | 16 => exact hc_arL h5 (show lw_twC[16]? = some 13 by decide +kernel) rfl
  | 17 => exact hc_arI h5 (show lw_twC[17]? = some 14 by decide +kernel) rfl (Or.inl rfl)
  | 18 => exact hc_arI h5 (show lw_twC[18]? = some 15 by decide +kernel) rfl (Or.inl rfl)
  | 19 => exact hc_arI h5 (show lw_twC[19]? = some 16 by decide +kernel) rfl (Or.inl rfl)
  | 20 => exact hc_arI h5 (show lw_twC[20]? = some 17 by decide +kernel) rfl (Or.inl rfl)
  | 21 => exact hc_o21 h4 h5 hD hG
  | 22 => exact hc_arI h5 (show lw_twC[22]? = some 19 by decide +kernel) rfl (Or.inl rfl)
  | 23 => exact hc_arI h5 (show lw_twC[23]? = some 20 by decide +kernel) rfl (Or.inl rfl)
  | 24 => exact hc_arI h5 (show lw_twC[24]? = some 21 by decide +kernel) rfl (Or.inl rfl)
  | 25 => exact hc_arI h5 (show lw_twC[25]? = some 22 by decide +kernel) rfl (Or.inl rfl)
  | 26 => exact hc_o26 h4 h5 hD hG
  | 27 => exact hc_arL h5 (show lw_twC[27]? = some 24 by decide +kernel) rfl
  | 28 => exact hc_arI h5 (show lw_twC[28]? = some 25 by decide +kernel) rfl (Or.inl rfl)
  | 29 => exact hc_arI h5 (show lw_twC[29]? = some 26 by decide +kernel) rfl (Or.inl rfl)
  | 30 => exact hc_arI h5 (show lw_twC[30]? = some 27 by decide +kernel) rfl (Or.inl rfl)
  | 31 => exact hc_arI h5 (show lw_twC[31]? = some 28 by decide +kernel) rfl (Or.inl rfl)
  | 32 => exact hc_arI h5 (show lw_twC[32]? = some 29 by decide +kernel) rfl (Or.inl rfl)
  | 33 => exact hc_arI h5 (show lw_twC[33]? = some 30 by decide +kernel) rfl (Or.inl rfl)
  | 34 => exact hc_o34 h4 h5 hD hG
  | 35 => exact hc_arI h5 (show lw_twC[35]? = some 32 by decide +kernel) rfl (Or.inl rfl)
  | 36 => exact hc_arI h5 (show lw_twC[36]? = some 33 by decide +kernel) rfl (Or.inl rfl)
  | 37 => exact hc_arI h5 (show lw_twC[37]? = some 34 by decide +kernel) rfl (Or.inl rfl)
  | 38 => exact hc_arI h5 (show lw_twC[38]? = some 35 by decide +kernel) rfl (Or.inl rfl)
  | 39 => exact hc_arI h5 (show lw_twC[39]? = some 36 by decide +kernel) rfl (Or.inl rfl)
  | 40 => exact hc_arI h5 (show lw_twC[40]? = some 37 by decide +kernel) rfl (Or.inl rfl)
  | 41 => exact hc_o41 h4 h5 hD hG
  | 42 => exact hc_arL h5 (show lw_twC[42]? = some 39 by decide +kernel) rfl
  | 43 => exact hc_arI h5 (show lw_twC[43]? = some 40 by decide +kernel) rfl (Or.inl rfl)
  | 44 => exact hc_arI h5 (show lw_twC[44]? = some 41 by decide +kernel) rfl (Or.inl rfl)
  | 45 => exact hc_arI h5 (show lw_twC[45]? = some 42 by decide +kernel) rfl (Or.inl rfl)
  | 46 => exact hc_arI h5 (show lw_twC[46]? = some 43 by decide +kernel) rfl (Or.inl rfl)
  | 47 => exact hc_o47 h4 h5 hD hG
  | 48 => exact hc_arI h5 (show lw_twC[48]? = some 45 by decide +kernel) rfl (Or.inl rfl)
  | 49 => exact hc_arI h5 (show lw_twC[49]? = some 46 by decide +kernel) rfl (Or.inl rfl)
  | 50 => exact hc_arI h5 (show lw_twC[50]? = some 47 by decide +kernel) rfl (Or.inl rfl)
  | 51 => exact hc_arI h5 (show lw_twC[51]? = some 48 by decide +kernel) rfl (Or.inl rfl)
  | 52 => exact hc_o52 h4 h5 hD hG
  | 53 => exact hc_arL h5 (show lw_twC[53]? = some 50 by decide +kernel) rfl
  | 54 => exact hc_arI h5 (show lw_twC[54]? = some 51 by decide +kernel) rfl (Or.inl rfl)
  | 55 => exact hc_arI h5 (show lw_twC[55]? = some 52 by decide +kernel) rfl (Or.inl rfl)
  | 56 => exact hc_arI h5 (show lw_twC[56]? = some 53 by decide +kernel) rfl (Or.inl rfl)
  | 57 => exact hc_arI h5 (show lw_twC[57]? = some 54 by decide +kernel) rfl (Or.inl rfl)
  | 58 => exact hc_arI h5 (show lw_twC[58]? = some 55 by decide +kernel) rfl (Or.inl rfl)
  | 59 => exact hc_arI h5 (show lw_twC[59]? = some 56 by decide +kernel) rfl (Or.inl rfl)
  | 60 => exact hc_o60 h4 h5 hD hG
  | 61 => exact hc_arI h5 (show lw_twC[61]? = some 58 by decide +kernel) rfl (Or.inl rfl)
  | 62 => exact hc_arI h5 (show lw_twC[62]? = some 59 by decide +kernel) rfl (Or.inl rfl)
  | 63 => exact hc_arI h5 (show lw_twC[63]? = some 60 by decide +kernel) rfl (Or.inl rfl)
  | 64 => exact hc_arI h5 (show lw_twC[64]? = some 61 by decide +kernel) rfl (Or.inl rfl)
  | 65 => exact hc_arI h5 (show lw_twC[65]? = some 62 by decide +kernel) rfl (Or.inl rfl)
  | 66 => exact hc_arI h5 (show lw_twC[66]? = some 63 by decide +kernel) rfl (Or.inl rfl)
  | i + 67 =>
    show (hc_mem ads lw_twC ws)[i + 67]? = ((hc_mem ads lw_twC ws).drop 67)[i]?
    rw [List.getElem?_drop, Nat.add_comm]
end HCM
/-! ===== what a store leaves ===== -/
theorem cm_si6 {g : Nat → Nat → Int32} {l : Nat → Nat → Int64} {a : Nat → Nat → Int32} {b : Nat → Nat → Int64} {R : fx_M} {i : Nat} {v : Int32} : (cm g l a b R).set 6 (.inr (.int, 4, .inl (upd (a 6) i v))) = cm g l (fm_u a 6 i v) b R := rfl
theorem cm_si7 {g : Nat → Nat → Int32} {l : Nat → Nat → Int64} {a : Nat → Nat → Int32} {b : Nat → Nat → Int64} {R : fx_M} {i : Nat} {v : Int32} : (cm g l a b R).set 7 (.inr (.int, 4, .inl (upd (a 7) i v))) = cm g l (fm_u a 7 i v) b R := rfl
theorem cm_si8 {g : Nat → Nat → Int32} {l : Nat → Nat → Int64} {a : Nat → Nat → Int32} {b : Nat → Nat → Int64} {R : fx_M} {i : Nat} {v : Int32} : (cm g l a b R).set 8 (.inr (.int, 20, .inl (upd (a 8) i v))) = cm g l (fm_u a 8 i v) b R := rfl
theorem cm_sb10 {g : Nat → Nat → Int32} {l : Nat → Nat → Int64} {a : Nat → Nat → Int32} {b : Nat → Nat → Int64} {R : fx_M} {i : Nat} {v : Int32} : (cm g l a b R).set 10 (.inr (.byte, 900, .inl (upd (a 10) i v))) = cm g l (fm_u a 10 i v) b R := rfl
theorem cm_si14 {g : Nat → Nat → Int32} {l : Nat → Nat → Int64} {a : Nat → Nat → Int32} {b : Nat → Nat → Int64} {R : fx_M} {i : Nat} {v : Int32} : (cm g l a b R).set 14 (.inr (.int, 3, .inl (upd (a 14) i v))) = cm g l (fm_u a 14 i v) b R := rfl
theorem cm_si17 {g : Nat → Nat → Int32} {l : Nat → Nat → Int64} {a : Nat → Nat → Int32} {b : Nat → Nat → Int64} {R : fx_M} {i : Nat} {v : Int32} : (cm g l a b R).set 17 (.inr (.int, 10, .inl (upd (a 17) i v))) = cm g l (fm_u a 17 i v) b R := rfl
theorem cm_si18 {g : Nat → Nat → Int32} {l : Nat → Nat → Int64} {a : Nat → Nat → Int32} {b : Nat → Nat → Int64} {R : fx_M} {i : Nat} {v : Int32} : (cm g l a b R).set 18 (.inr (.int, 10, .inl (upd (a 18) i v))) = cm g l (fm_u a 18 i v) b R := rfl
theorem cm_si19 {g : Nat → Nat → Int32} {l : Nat → Nat → Int64} {a : Nat → Nat → Int32} {b : Nat → Nat → Int64} {R : fx_M} {i : Nat} {v : Int32} : (cm g l a b R).set 19 (.inr (.int, 10, .inl (upd (a 19) i v))) = cm g l (fm_u a 19 i v) b R := rfl
theorem cm_si20 {g : Nat → Nat → Int32} {l : Nat → Nat → Int64} {a : Nat → Nat → Int32} {b : Nat → Nat → Int64} {R : fx_M} {i : Nat} {v : Int32} : (cm g l a b R).set 20 (.inr (.int, 10, .inl (upd (a 20) i v))) = cm g l (fm_u a 20 i v) b R := rfl
theorem cm_si22 {g : Nat → Nat → Int32} {l : Nat → Nat → Int64} {a : Nat → Nat → Int32} {b : Nat → Nat → Int64} {R : fx_M} {i : Nat} {v : Int32} : (cm g l a b R).set 22 (.inr (.int, 10, .inl (upd (a 22) i v))) = cm g l (fm_u a 22 i v) b R := rfl
theorem cm_si23 {g : Nat → Nat → Int32} {l : Nat → Nat → Int64} {a : Nat → Nat → Int32} {b : Nat → Nat → Int64} {R : fx_M} {i : Nat} {v : Int32} : (cm g l a b R).set 23 (.inr (.int, 10, .inl (upd (a 23) i v))) = cm g l (fm_u a 23 i v) b R := rfl
theorem cm_si24 {g : Nat → Nat → Int32} {l : Nat → Nat → Int64} {a : Nat → Nat → Int32} {b : Nat → Nat → Int64} {R : fx_M} {i : Nat} {v : Int32} : (cm g l a b R).set 24 (.inr (.int, 10, .inl (upd (a 24) i v))) = cm g l (fm_u a 24 i v) b R := rfl
theorem cm_si25 {g : Nat → Nat → Int32} {l : Nat → Nat → Int64} {a : Nat → Nat → Int32} {b : Nat → Nat → Int64} {R : fx_M} {i : Nat} {v : Int32} : (cm g l a b R).set 25 (.inr (.int, 200, .inl (upd (a 25) i v))) = cm g l (fm_u a 25 i v) b R := rfl
theorem cm_si28 {g : Nat → Nat → Int32} {l : Nat → Nat → Int64} {a : Nat → Nat → Int32} {b : Nat → Nat → Int64} {R : fx_M} {i : Nat} {v : Int32} : (cm g l a b R).set 28 (.inr (.int, 8, .inl (upd (a 28) i v))) = cm g l (fm_u a 28 i v) b R := rfl
theorem cm_si29 {g : Nat → Nat → Int32} {l : Nat → Nat → Int64} {a : Nat → Nat → Int32} {b : Nat → Nat → Int64} {R : fx_M} {i : Nat} {v : Int32} : (cm g l a b R).set 29 (.inr (.int, 8, .inl (upd (a 29) i v))) = cm g l (fm_u a 29 i v) b R := rfl
theorem cm_si30 {g : Nat → Nat → Int32} {l : Nat → Nat → Int64} {a : Nat → Nat → Int32} {b : Nat → Nat → Int64} {R : fx_M} {i : Nat} {v : Int32} : (cm g l a b R).set 30 (.inr (.int, 8, .inl (upd (a 30) i v))) = cm g l (fm_u a 30 i v) b R := rfl
theorem cm_si31 {g : Nat → Nat → Int32} {l : Nat → Nat → Int64} {a : Nat → Nat → Int32} {b : Nat → Nat → Int64} {R : fx_M} {i : Nat} {v : Int32} : (cm g l a b R).set 31 (.inr (.int, 8, .inl (upd (a 31) i v))) = cm g l (fm_u a 31 i v) b R := rfl
theorem cm_si32 {g : Nat → Nat → Int32} {l : Nat → Nat → Int64} {a : Nat → Nat → Int32} {b : Nat → Nat → Int64} {R : fx_M} {i : Nat} {v : Int32} : (cm g l a b R).set 32 (.inr (.int, 8, .inl (upd (a 32) i v))) = cm g l (fm_u a 32 i v) b R := rfl
theorem cm_si33 {g : Nat → Nat → Int32} {l : Nat → Nat → Int64} {a : Nat → Nat → Int32} {b : Nat → Nat → Int64} {R : fx_M} {i : Nat} {v : Int32} : (cm g l a b R).set 33 (.inr (.int, 160, .inl (upd (a 33) i v))) = cm g l (fm_u a 33 i v) b R := rfl
theorem cm_si35 {g : Nat → Nat → Int32} {l : Nat → Nat → Int64} {a : Nat → Nat → Int32} {b : Nat → Nat → Int64} {R : fx_M} {i : Nat} {v : Int32} : (cm g l a b R).set 35 (.inr (.int, 30, .inl (upd (a 35) i v))) = cm g l (fm_u a 35 i v) b R := rfl
theorem cm_si36 {g : Nat → Nat → Int32} {l : Nat → Nat → Int64} {a : Nat → Nat → Int32} {b : Nat → Nat → Int64} {R : fx_M} {i : Nat} {v : Int32} : (cm g l a b R).set 36 (.inr (.int, 30, .inl (upd (a 36) i v))) = cm g l (fm_u a 36 i v) b R := rfl
theorem cm_si37 {g : Nat → Nat → Int32} {l : Nat → Nat → Int64} {a : Nat → Nat → Int32} {b : Nat → Nat → Int64} {R : fx_M} {i : Nat} {v : Int32} : (cm g l a b R).set 37 (.inr (.int, 30, .inl (upd (a 37) i v))) = cm g l (fm_u a 37 i v) b R := rfl
theorem cm_si38 {g : Nat → Nat → Int32} {l : Nat → Nat → Int64} {a : Nat → Nat → Int32} {b : Nat → Nat → Int64} {R : fx_M} {i : Nat} {v : Int32} : (cm g l a b R).set 38 (.inr (.int, 30, .inl (upd (a 38) i v))) = cm g l (fm_u a 38 i v) b R := rfl
theorem cm_si39 {g : Nat → Nat → Int32} {l : Nat → Nat → Int64} {a : Nat → Nat → Int32} {b : Nat → Nat → Int64} {R : fx_M} {i : Nat} {v : Int32} : (cm g l a b R).set 39 (.inr (.int, 30, .inl (upd (a 39) i v))) = cm g l (fm_u a 39 i v) b R := rfl
theorem cm_si40 {g : Nat → Nat → Int32} {l : Nat → Nat → Int64} {a : Nat → Nat → Int32} {b : Nat → Nat → Int64} {R : fx_M} {i : Nat} {v : Int32} : (cm g l a b R).set 40 (.inr (.int, 30, .inl (upd (a 40) i v))) = cm g l (fm_u a 40 i v) b R := rfl
theorem cm_si43 {g : Nat → Nat → Int32} {l : Nat → Nat → Int64} {a : Nat → Nat → Int32} {b : Nat → Nat → Int64} {R : fx_M} {i : Nat} {v : Int32} : (cm g l a b R).set 43 (.inr (.int, 10, .inl (upd (a 43) i v))) = cm g l (fm_u a 43 i v) b R := rfl
theorem cm_si44 {g : Nat → Nat → Int32} {l : Nat → Nat → Int64} {a : Nat → Nat → Int32} {b : Nat → Nat → Int64} {R : fx_M} {i : Nat} {v : Int32} : (cm g l a b R).set 44 (.inr (.int, 10, .inl (upd (a 44) i v))) = cm g l (fm_u a 44 i v) b R := rfl
theorem cm_si45 {g : Nat → Nat → Int32} {l : Nat → Nat → Int64} {a : Nat → Nat → Int32} {b : Nat → Nat → Int64} {R : fx_M} {i : Nat} {v : Int32} : (cm g l a b R).set 45 (.inr (.int, 10, .inl (upd (a 45) i v))) = cm g l (fm_u a 45 i v) b R := rfl
theorem cm_si46 {g : Nat → Nat → Int32} {l : Nat → Nat → Int64} {a : Nat → Nat → Int32} {b : Nat → Nat → Int64} {R : fx_M} {i : Nat} {v : Int32} : (cm g l a b R).set 46 (.inr (.int, 10, .inl (upd (a 46) i v))) = cm g l (fm_u a 46 i v) b R := rfl
theorem cm_si48 {g : Nat → Nat → Int32} {l : Nat → Nat → Int64} {a : Nat → Nat → Int32} {b : Nat → Nat → Int64} {R : fx_M} {i : Nat} {v : Int32} : (cm g l a b R).set 48 (.inr (.int, 10, .inl (upd (a 48) i v))) = cm g l (fm_u a 48 i v) b R := rfl
theorem cm_si49 {g : Nat → Nat → Int32} {l : Nat → Nat → Int64} {a : Nat → Nat → Int32} {b : Nat → Nat → Int64} {R : fx_M} {i : Nat} {v : Int32} : (cm g l a b R).set 49 (.inr (.int, 10, .inl (upd (a 49) i v))) = cm g l (fm_u a 49 i v) b R := rfl
theorem cm_si50 {g : Nat → Nat → Int32} {l : Nat → Nat → Int64} {a : Nat → Nat → Int32} {b : Nat → Nat → Int64} {R : fx_M} {i : Nat} {v : Int32} : (cm g l a b R).set 50 (.inr (.int, 10, .inl (upd (a 50) i v))) = cm g l (fm_u a 50 i v) b R := rfl
theorem cm_si51 {g : Nat → Nat → Int32} {l : Nat → Nat → Int64} {a : Nat → Nat → Int32} {b : Nat → Nat → Int64} {R : fx_M} {i : Nat} {v : Int32} : (cm g l a b R).set 51 (.inr (.int, 200, .inl (upd (a 51) i v))) = cm g l (fm_u a 51 i v) b R := rfl
theorem cm_si54 {g : Nat → Nat → Int32} {l : Nat → Nat → Int64} {a : Nat → Nat → Int32} {b : Nat → Nat → Int64} {R : fx_M} {i : Nat} {v : Int32} : (cm g l a b R).set 54 (.inr (.int, 8, .inl (upd (a 54) i v))) = cm g l (fm_u a 54 i v) b R := rfl
theorem cm_si55 {g : Nat → Nat → Int32} {l : Nat → Nat → Int64} {a : Nat → Nat → Int32} {b : Nat → Nat → Int64} {R : fx_M} {i : Nat} {v : Int32} : (cm g l a b R).set 55 (.inr (.int, 8, .inl (upd (a 55) i v))) = cm g l (fm_u a 55 i v) b R := rfl
theorem cm_si56 {g : Nat → Nat → Int32} {l : Nat → Nat → Int64} {a : Nat → Nat → Int32} {b : Nat → Nat → Int64} {R : fx_M} {i : Nat} {v : Int32} : (cm g l a b R).set 56 (.inr (.int, 8, .inl (upd (a 56) i v))) = cm g l (fm_u a 56 i v) b R := rfl
theorem cm_si57 {g : Nat → Nat → Int32} {l : Nat → Nat → Int64} {a : Nat → Nat → Int32} {b : Nat → Nat → Int64} {R : fx_M} {i : Nat} {v : Int32} : (cm g l a b R).set 57 (.inr (.int, 8, .inl (upd (a 57) i v))) = cm g l (fm_u a 57 i v) b R := rfl
theorem cm_si58 {g : Nat → Nat → Int32} {l : Nat → Nat → Int64} {a : Nat → Nat → Int32} {b : Nat → Nat → Int64} {R : fx_M} {i : Nat} {v : Int32} : (cm g l a b R).set 58 (.inr (.int, 8, .inl (upd (a 58) i v))) = cm g l (fm_u a 58 i v) b R := rfl
theorem cm_si59 {g : Nat → Nat → Int32} {l : Nat → Nat → Int64} {a : Nat → Nat → Int32} {b : Nat → Nat → Int64} {R : fx_M} {i : Nat} {v : Int32} : (cm g l a b R).set 59 (.inr (.int, 160, .inl (upd (a 59) i v))) = cm g l (fm_u a 59 i v) b R := rfl
theorem cm_si61 {g : Nat → Nat → Int32} {l : Nat → Nat → Int64} {a : Nat → Nat → Int32} {b : Nat → Nat → Int64} {R : fx_M} {i : Nat} {v : Int32} : (cm g l a b R).set 61 (.inr (.int, 30, .inl (upd (a 61) i v))) = cm g l (fm_u a 61 i v) b R := rfl
theorem cm_si62 {g : Nat → Nat → Int32} {l : Nat → Nat → Int64} {a : Nat → Nat → Int32} {b : Nat → Nat → Int64} {R : fx_M} {i : Nat} {v : Int32} : (cm g l a b R).set 62 (.inr (.int, 30, .inl (upd (a 62) i v))) = cm g l (fm_u a 62 i v) b R := rfl
theorem cm_si63 {g : Nat → Nat → Int32} {l : Nat → Nat → Int64} {a : Nat → Nat → Int32} {b : Nat → Nat → Int64} {R : fx_M} {i : Nat} {v : Int32} : (cm g l a b R).set 63 (.inr (.int, 30, .inl (upd (a 63) i v))) = cm g l (fm_u a 63 i v) b R := rfl
theorem cm_si64 {g : Nat → Nat → Int32} {l : Nat → Nat → Int64} {a : Nat → Nat → Int32} {b : Nat → Nat → Int64} {R : fx_M} {i : Nat} {v : Int32} : (cm g l a b R).set 64 (.inr (.int, 30, .inl (upd (a 64) i v))) = cm g l (fm_u a 64 i v) b R := rfl
theorem cm_si65 {g : Nat → Nat → Int32} {l : Nat → Nat → Int64} {a : Nat → Nat → Int32} {b : Nat → Nat → Int64} {R : fx_M} {i : Nat} {v : Int32} : (cm g l a b R).set 65 (.inr (.int, 30, .inl (upd (a 65) i v))) = cm g l (fm_u a 65 i v) b R := rfl
theorem cm_si66 {g : Nat → Nat → Int32} {l : Nat → Nat → Int64} {a : Nat → Nat → Int32} {b : Nat → Nat → Int64} {R : fx_M} {i : Nat} {v : Int32} : (cm g l a b R).set 66 (.inr (.int, 30, .inl (upd (a 66) i v))) = cm g l (fm_u a 66 i v) b R := rfl
theorem cm_sl2 {g : Nat → Nat → Int32} {l : Nat → Nat → Int64} {a : Nat → Nat → Int32} {b : Nat → Nat → Int64} {R : fx_M} {i : Nat} {v : Int64} : (cm g l a b R).set 2 (.inr (.long, 60, .inr (.inl (vp_updL (b 2) i v)))) = cm g l a (fm_uL b 2 i v) R := rfl
theorem cm_sl3 {g : Nat → Nat → Int32} {l : Nat → Nat → Int64} {a : Nat → Nat → Int32} {b : Nat → Nat → Int64} {R : fx_M} {i : Nat} {v : Int64} : (cm g l a b R).set 3 (.inr (.long, 60, .inr (.inl (vp_updL (b 3) i v)))) = cm g l a (fm_uL b 3 i v) R := rfl
theorem cm_sl4 {g : Nat → Nat → Int32} {l : Nat → Nat → Int64} {a : Nat → Nat → Int32} {b : Nat → Nat → Int64} {R : fx_M} {i : Nat} {v : Int64} : (cm g l a b R).set 4 (.inr (.long, 60, .inr (.inl (vp_updL (b 4) i v)))) = cm g l a (fm_uL b 4 i v) R := rfl
theorem cm_sl5 {g : Nat → Nat → Int32} {l : Nat → Nat → Int64} {a : Nat → Nat → Int32} {b : Nat → Nat → Int64} {R : fx_M} {i : Nat} {v : Int64} : (cm g l a b R).set 5 (.inr (.long, 60, .inr (.inl (vp_updL (b 5) i v)))) = cm g l a (fm_uL b 5 i v) R := rfl
theorem cm_sl11 {g : Nat → Nat → Int32} {l : Nat → Nat → Int64} {a : Nat → Nat → Int32} {b : Nat → Nat → Int64} {R : fx_M} {i : Nat} {v : Int64} : (cm g l a b R).set 11 (.inr (.long, 23, .inr (.inl (vp_updL (b 11) i v)))) = cm g l a (fm_uL b 11 i v) R := rfl
theorem cm_sl16 {g : Nat → Nat → Int32} {l : Nat → Nat → Int64} {a : Nat → Nat → Int32} {b : Nat → Nat → Int64} {R : fx_M} {i : Nat} {v : Int64} : (cm g l a b R).set 16 (.inr (.long, 10, .inr (.inl (vp_updL (b 16) i v)))) = cm g l a (fm_uL b 16 i v) R := rfl
theorem cm_sl27 {g : Nat → Nat → Int32} {l : Nat → Nat → Int64} {a : Nat → Nat → Int32} {b : Nat → Nat → Int64} {R : fx_M} {i : Nat} {v : Int64} : (cm g l a b R).set 27 (.inr (.long, 8, .inr (.inl (vp_updL (b 27) i v)))) = cm g l a (fm_uL b 27 i v) R := rfl
theorem cm_sl42 {g : Nat → Nat → Int32} {l : Nat → Nat → Int64} {a : Nat → Nat → Int32} {b : Nat → Nat → Int64} {R : fx_M} {i : Nat} {v : Int64} : (cm g l a b R).set 42 (.inr (.long, 10, .inr (.inl (vp_updL (b 42) i v)))) = cm g l a (fm_uL b 42 i v) R := rfl
theorem cm_sl53 {g : Nat → Nat → Int32} {l : Nat → Nat → Int64} {a : Nat → Nat → Int32} {b : Nat → Nat → Int64} {R : fx_M} {i : Nat} {v : Int64} : (cm g l a b R).set 53 (.inr (.long, 8, .inr (.inl (vp_updL (b 53) i v)))) = cm g l a (fm_uL b 53 i v) R := rfl
