/-! ===== the class's trays: its calls, told of worlds ===== -/
/-- the references stand, too -/
def hg_X (ws : va_W) : Prop := gc_X lw_twC ws ∧ gs ws
theorem gc_X_far {tw : List Nat} {ws ws' : va_W} (h : ∀ (j t : Nat), tw[j]? = some t → 31 ≤ t → ∀ (y : Nat) (e : va_E), ws'[j]? = some (y, e) → ∃ e0, ws[j]? = some (y, e0) ∧ ∀ i, tk_pos e i = tk_pos e0 i) (hX : gc_X tw ws) : gc_X tw ws' := by
  have hrl : ∀ q ∈ gc_rl, 31 ≤ q.1 ∧ 31 ≤ q.2.1 ∧ 31 ≤ q.2.2 := by decide
  refine ⟨fun t to ta j jo ja y yo ya r e eo ea n x v h1 h2 h3 h4 h5 h6 h7 h8 h9 h10 h11 h12 h13 h14 h15 => ?_, fun t to ta j1 j2 y1 y2 yo k e1 e2 h1 h2 h3 h4 h5 h6 h7 h8 => ?_⟩
  · obtain ⟨r1, r2, r3⟩ := hrl _ h1
    obtain ⟨f, k1, k2⟩ := h j t h3 r1 y e h6
    obtain ⟨fo, k3, k4⟩ := h jo to h4 r2 yo eo h7
    obtain ⟨fa, k5, k6⟩ := h ja ta h5 r3 ya ea h8
    rw [k2] at h9 h10 h11
    rw [k4] at h13
    rw [k6] at h14
    exact hX.1 t to ta j jo ja y yo ya r f fo fa n x v h1 h2 h3 h4 h5 k1 k3 k5 h9 h10 h11 h12 h13 h14 h15
  · obtain ⟨r1, r2, r3⟩ := hrl _ h1
    obtain ⟨f1, k1, k2⟩ := h j1 t h3 r1 y1 e1 h5
    obtain ⟨f2, k3, k4⟩ := h j2 t h4 r1 y2 e2 h6
    rw [k2] at h7
    rw [k4] at h8
    exact hX.2 t to ta j1 j2 y1 y2 yo k f1 f2 h1 h2 h3 h4 k1 k3 h7 h8
theorem lw_twC_far : ∀ j t : Nat, lw_twC[j]? = some t → 31 ≤ t → 8 ≤ j := by
  intro j t h ht
  have hb : j < 270 := lw_ltC h
  have key : (List.range 270).all (fun j => match lw_twC[j]? with
    | some t => Nat.blt t 31 || Nat.ble 8 j
    | none => true) = true := by decide +kernel
  have h1 := List.all_eq_true.mp key j (List.mem_range.mpr hb)
  rw [h] at h1
  rcases Bool.or_eq_true_iff.mp h1 with h2 | h2
  · have := Nat.le_of_ble_eq_true h2; omega
  · exact Nat.le_of_ble_eq_true h2
section CMT
variable {g g' : Nat → Nat → Int32} {l : Nat → Nat → Int64} {a a' : Nat → Nat → Int32} {b b' : Nat → Nat → Int64} {R : fx_M}
theorem cm_tail (hg : ∀ j, j ≠ 0 → g' j = g j) (ha : ∀ j, j ≠ 6 → j ≠ 7 → a' j = a j) (hb : ∀ j, j < 2 ∨ 5 < j → b' j = b j) : ∀ j, j = 1 ∨ 8 ≤ j → (cm g' l a' b' R)[j]? = (cm g l a b R)[j]? := by
  have e1 : g' = fun j => cond (Nat.beq j 0) (g' j) (g j) := funext (fun j => by
    show g' j = cond (Nat.beq j 0) (g' j) (g j)
    cases h : Nat.beq j 0 with
    | true => rfl
    | false => exact hg j (fun z => by rw [z] at h; cases h))
  have e2 : a' = fun j => cond (Nat.beq j 6 || Nat.beq j 7) (a' j) (a j) := funext (fun j => by
    show a' j = cond (Nat.beq j 6 || Nat.beq j 7) (a' j) (a j)
    cases h : (Nat.beq j 6 || Nat.beq j 7) with
    | true => rfl
    | false => exact ha j (fun z => by rw [z] at h; cases h) (fun z => by rw [z] at h; cases h))
  have e3 : b' = fun j => cond (Nat.ble 2 j && Nat.ble j 5) (b' j) (b j) := funext (fun j => by
    show b' j = cond (Nat.ble 2 j && Nat.ble j 5) (b' j) (b j)
    cases h : (Nat.ble 2 j && Nat.ble j 5) with
    | true => rfl
    | false =>
      refine hb j (Classical.byContradiction (fun z => ?_))
      rw [Nat.ble_eq_true_of_le (show 2 ≤ j by omega), Nat.ble_eq_true_of_le (show j ≤ 5 by omega)] at h
      cases h)
  have key : (cm g' l a' b' R).drop 8 = (cm g l a b R).drop 8 := by
    rw [e1, e2, e3]
    rfl
  rintro j (rfl | hj)
  · rfl
  · have h := congrArg (fun l : fx_M => l[j - 8]?) key
    rw [List.getElem?_drop, List.getElem?_drop, show 8 + (j - 8) = j from by omega] at h
    exact h
end CMT
section HT
variable {ads : List Nat} {ws : va_W} {U : State}
theorem hw_get {mem' : fx_M} {j : Nat} {q : Nat × va_E} {e : fx_E} (h : ws[j]? = some q) (hm : mem'[j]? = some e) : (fx_w (hc_ps ws) mem')[j]? = some (q.1, fx_c (hc_ps ws) (hc_cl q.2) e) := by
  unfold fx_w
  rw [List.getElem?_zipWith, hc_ps_at h, hm]
theorem hw_inv {mem' : fx_M} {j : Nat} {q' : Nat × va_E} (h : (fx_w (hc_ps ws) mem')[j]? = some q') : ∃ (q : Nat × va_E) (e : fx_E), ws[j]? = some q ∧ mem'[j]? = some e ∧ q' = (q.1, fx_c (hc_ps ws) (hc_cl q.2) e) := by
  cases h3 : ws[j]? with
  | none =>
    unfold fx_w at h
    rw [List.getElem?_zipWith, show (hc_ps ws)[j]? = none from by unfold hc_ps; rw [List.getElem?_map, h3]; rfl] at h
    cases h
  | some q =>
    cases h2 : mem'[j]? with
    | none =>
      unfold fx_w at h
      rw [List.getElem?_zipWith, hc_ps_at h3, h2] at h
      cases h
    | some e =>
      rw [hw_get h3 h2] at h
      exact ⟨q, e, rfl, rfl, (Option.some.inj h).symm⟩
theorem hw_pos (h4 : ws.map Prod.fst = ads) (h5 : rk_A2 (fun b (q : Nat × va_E) => tk_cl gc_TY lc_ro ads lw_twC U b q.2) lw_twC ws) {j : Nat} {q : Nat × va_E} {e : fx_E} (h : ws[j]? = some q) (hm : (hc_mem ads lw_twC ws)[j]? = some e) : ∀ i, tk_pos (fx_c (hc_ps ws) (hc_cl q.2) e) i = tk_pos q.2 i := by
  have hlt : j < lw_twC.length := by
    have h1 := (List.getElem?_eq_some_iff.mp h).1
    have h2 := h5.len
    omega
  have ht : lw_twC[j]? = some (lw_twC[j]'hlt) := List.getElem?_eq_getElem hlt
  obtain ⟨q2, k4, k5⟩ := h5.get ht
  rw [h] at k4
  cases k4
  rw [hc_mem_at h ht] at hm
  cases hm
  exact (hc_c h4 k5 (lw_twC_lt ht)).1
theorem hw_keep (h4 : ws.map Prod.fst = ads) (h5 : rk_A2 (fun b (q : Nat × va_E) => tk_cl gc_TY lc_ro ads lw_twC U b q.2) lw_twC ws) {mem' : fx_M} {j y : Nat} {e : va_E} (hm : mem'[j]? = (hc_mem ads lw_twC ws)[j]?) (h : (fx_w (hc_ps ws) mem')[j]? = some (y, e)) : ∃ e0, ws[j]? = some (y, e0) ∧ ∀ i, tk_pos e i = tk_pos e0 i := by
  obtain ⟨q, e1, k1, k2, k3⟩ := hw_inv h
  cases k3
  rw [hm] at k2
  exact ⟨q.2, k1, hw_pos h4 h5 k1 k2⟩
theorem hw_at {mem' : fx_M} {j i : Nat} {q : Nat × va_E} {e : fx_E} (h : ws[j]? = some q) (hm : mem'[j]? = some e) : lw_at (fx_w (hc_ps ws) mem') (j, i) = tk_pos (fx_c (hc_ps ws) (hc_cl q.2) e) i := by
  unfold lw_at
  dsimp only
  rw [hw_get h hm]
theorem hw_at0 (h4 : ws.map Prod.fst = ads) (h5 : rk_A2 (fun b (q : Nat × va_E) => tk_cl gc_TY lc_ro ads lw_twC U b q.2) lw_twC ws) {j i : Nat} {q : Nat × va_E} {e : fx_E} (h : ws[j]? = some q) (hm : (hc_mem ads lw_twC ws)[j]? = some e) : lw_at ws (j, i) = tk_pos (fx_c (hc_ps ws) (hc_cl q.2) e) i := by
  rw [hw_pos h4 h5 h hm]
  unfold lw_at
  dsimp only
  rw [h]
theorem hc_bdI (h5 : rk_A2 (fun b (q : Nat × va_E) => tk_cl gc_TY lc_ro ads lw_twC U b q.2) lw_twC ws) {j t n : Nat} {lo hi : Int} (ht : lw_twC[j]? = some t) (hk : gc_ty[t]? = some (.inr (.int, n, (0, lo, hi)))) : ∀ i, i < n → lo ≤ (ca ws j i).toInt ∧ (ca ws j i).toInt ≤ hi := by
  obtain ⟨q, hq, hc⟩ := h5.get ht
  unfold tk_cl at hc
  rw [show gc_TY.1[t]? = _ from hk] at hc
  obtain ⟨cA, -, -, h3⟩ := hc
  obtain ⟨f, e, h3⟩ := (show ∃ f : Nat → Int32, q.2 = .inl (cA, n, .inl f) ∧ ∀ i, i < n → tk_fv lc_ro gc_TY.2.1 ads lw_twC t i (0, lo, hi) (.int (f i)) from h3)
  have e2 : ca ws j = f := by
    unfold ca
    rw [hq, show q = (q.1, q.2) from rfl, e]
  intro i hlt
  obtain ⟨x, hx, h1, h2⟩ := (show ∃ x : Int32, Value.int (f i) = .int x ∧ lo ≤ x.toInt ∧ x.toInt ≤ hi from h3 i hlt)
  cases hx
  rw [e2]
  exact ⟨h1, h2⟩
/-- the trays in the class's world: sizes, sorts, numbers -/
def tc_V (ws : va_W) (z s : Nat → Int32) (f : Nat → Nat → Int64) : Prop := ∀ t, t < 4 → lw_at ws (7, t) = some (.int (z t)) ∧ lw_at ws (6, t) = some (.int (s t)) ∧ ∀ i, i < 60 → lw_at ws (2 + t, i) = some (.long (f t i))
theorem tc_V_mem {g : Nat → Nat → Int32} {l : Nat → Nat → Int64} {a : Nat → Nat → Int32} {b : Nat → Nat → Int64} {R : fx_M} {w : va_W} (h : ∀ (j : Nat) (e : fx_E), j < 8 → (cm g l a b R)[j]? = some e → ∃ cA, ∀ i, lw_at w (j, i) = tk_pos (fx_c (hc_ps ws) cA e) i) : tc_V w (a 7) (a 6) (fun t => b (2 + t)) := by
  intro t ht
  refine ⟨?_, ?_, fun i hi => ?_⟩
  · obtain ⟨cA, h1⟩ := h 7 _ (by decide) rfl
    rw [h1]
    show (if t < 4 then some (Value.int (a 7 t)) else none) = _
    rw [if_pos ht]
  · obtain ⟨cA, h1⟩ := h 6 _ (by decide) rfl
    rw [h1]
    show (if t < 4 then some (Value.int (a 6 t)) else none) = _
    rw [if_pos ht]
  · obtain ⟨cA, h1⟩ := h (2 + t) _ (by omega) (cm_row ht)
    rw [h1]
    show (if i < 60 then some (Value.long (b (2 + t) i)) else none) = _
    rw [if_pos hi]
end HT
section HTS
variable {l : Launch} {D : va_G} {xt : tk_XT} {ads : List Nat}
abbrev ht_S : Type := List Value → (Nat → Int32) → (Nat → Int32) → (Nat → Nat → Int64) → (Nat → Int32) → (Nat → Int32) → (Nat → Nat → Int64) → Value → Prop
def ht_Q (V : va_W → (Nat → Int32) → (Nat → Int32) → (Nat → Nat → Int64) → Prop) (S : ht_S) : List Value → va_W → va_W → Value → Prop := fun av ws ws' v => ∃ (z s : Nat → Int32) (f : Nat → Nat → Int64) (z' s' : Nat → Int32) (f' : Nat → Nat → Int64), V ws z s f ∧ V ws' z' s' f' ∧ S av z s f z' s' f' v
theorem gs_ne : ∀ z ∈ gs_L, (z.1 = 0 ∧ z.2.1 ≠ 0) ∨ z.1 = 1 ∨ 8 ≤ z.1 := by decide
set_option maxHeartbeats 8000000 in
theorem ht_sem (hxt : tk_xtok xt) {k f : Nat} {kinds : List Nat} {envs : List tk_I} {S : ht_S}
    (hex : ∀ (rest : List Value) (g : Nat → Nat → Int32) (l' : Nat → Nat → Int64) (a : Nat → Nat → Int32) (b : Nat → Nat → Int64) (R : fx_M), rk_A2 lq_av (kinds.zip envs) rest → (∀ t, t < 4 → 0 ≤ (a 6 t).toInt ∧ (a 6 t).toInt ≤ 3) → (∀ t, t < 4 → -1 ≤ (a 7 t).toInt ∧ (a 7 t).toInt ≤ 60) → ∃ (v : Value) (st : Int32) (a' : Nat → Nat → Int32) (b' : Nat → Nat → Int64), fx_kd v ≤ 1 ∧ hr_T k f (.ref 0 :: rest) (cm g l' a b R) (some v) (cm (fm_u g 0 0 st) l' a' b' R) ∧ (0 ≤ st.toInt ∧ st.toInt ≤ 9) ∧ (∀ j, j ≠ 6 → j ≠ 7 → a' j = a j) ∧ (∀ j, j < 2 ∨ 5 < j → b' j = b j) ∧ (∀ t, t < 4 → (0 ≤ (a' 6 t).toInt ∧ (a' 6 t).toInt ≤ 3) ∧ -1 ≤ (a' 7 t).toInt ∧ (a' 7 t).toInt ≤ 60) ∧ S rest (a 7) (a 6) (fun t => b (2 + t)) (a' 7) (a' 6) (fun t => b' (2 + t)) v) : lw_sem l D xt gc_TY hg_X ads lw_twC (k + 4) f kinds envs (ht_Q tc_V S) := by
  refine hc_sem0 hxt (fun U ax rest ws hty hrest h5 h4 hD hX => ?_)
  have hcm := hc_cm h4 h5 hD hX.2
  have hl : ws.length = lw_twC.length := h5.len.symm
  have hl270 : ws.length = 270 := by rw [hl]; exact lw_lenC
  generalize (hc_mem ads lw_twC ws).drop 67 = R at hcm
  obtain ⟨v, st, a', b', hv, hrun, hst, ha, hb, hbd, hS⟩ := hex rest (cg ws) (cl_ ws) (ca ws) (cb ws) R hrest (hc_bdI h5 (show lw_twC[6]? = some 3 by decide +kernel) rfl) (hc_bdI h5 (show lw_twC[7]? = some 4 by decide +kernel) rfl)
  have hg : ∀ j, j ≠ 0 → (fm_u (cg ws) 0 0 st) j = cg ws j := fun j hj => if_neg hj
  have htl := cm_tail (l := cl_ ws) (R := R) hg ha hb
  have hlen : (cm (fm_u (cg ws) 0 0 st) (cl_ ws) a' b' R).length = ws.length := by
    rw [show (cm (fm_u (cg ws) 0 0 st) (cl_ ws) a' b' R).length = (cm (cg ws) (cl_ ws) (ca ws) (cb ws) R).length from rfl, ← hcm]
    exact hc_mem_len hl
  have hw : ∀ {j : Nat}, j < 270 → ∃ q, ws[j]? = some q := fun {j} hj => ⟨_, List.getElem?_eq_getElem (by omega)⟩
  have hfst : ∀ k : Nat, ((fx_w (hc_ps ws) (cm (fm_u (cg ws) 0 0 st) (cl_ ws) a' b' R))[k]?).map (fun q => Value.ref q.1) = (ws[k]?).map (fun q => Value.ref q.1) := fun k => by
    cases h1 : ws[k]? with
    | none =>
      cases h2 : (fx_w (hc_ps ws) (cm (fm_u (cg ws) 0 0 st) (cl_ ws) a' b' R))[k]? with
      | none => rfl
      | some q' =>
        obtain ⟨q, e, k1, -, -⟩ := hw_inv h2
        rw [h1] at k1
        cases k1
    | some q =>
      have hk : k < (cm (fm_u (cg ws) 0 0 st) (cl_ ws) a' b' R).length := by rw [hlen]; exact (List.getElem?_eq_some_iff.mp h1).1
      rw [hw_get h1 (List.getElem?_eq_getElem hk)]
      rfl
  have hkeep : ∀ (j : Nat), j = 1 ∨ 8 ≤ j → ∀ (y : Nat) (e : va_E), (fx_w (hc_ps ws) (cm (fm_u (cg ws) 0 0 st) (cl_ ws) a' b' R))[j]? = some (y, e) → ∃ e0, ws[j]? = some (y, e0) ∧ ∀ i, tk_pos e i = tk_pos e0 i := fun j hj y e h => hw_keep h4 h5 (by rw [htl j hj, hcm]) h
  refine ⟨v, _, hv, by rw [hcm]; exact hrun, hlen, fun j t e e' ht he he' => ?_, ⟨gc_X_far (fun j t ht h31 => hkeep j (Or.inr (lw_twC_far j t ht h31))) hX.1, fun z hz => ?_⟩, _, _, _, _, _, _, tc_V_mem (ws := ws) (g := cg ws) (l := cl_ ws) (a := ca ws) (b := cb ws) (R := R) (fun j e hj he => ?_), tc_V_mem (ws := ws) (g := fm_u (cg ws) 0 0 st) (l := cl_ ws) (a := a') (b := b') (R := R) (fun j e hj he => ?_), hS⟩
  · rw [hcm] at he
    rcases (by omega : (j = 1 ∨ 8 ≤ j) ∨ j = 0 ∨ j = 2 ∨ j = 3 ∨ j = 4 ∨ j = 5 ∨ j = 6 ∨ j = 7) with hj | rfl | rfl | rfl | rfl | rfl | rfl | rfl
    · rw [htl j hj, he] at he'
      cases he'
      exact Or.inl rfl
    · rw [show lw_twC[0]? = some 0 by decide +kernel] at ht
      cases ht
      cases he
      cases he'
      refine Or.inr (Or.inr (Or.inr ⟨11, _, _, rfl, rfl, rfl, fun fs hfs i f hf => ?_⟩))
      match i with
      | 0 =>
        refine Or.inr ⟨.int st, rfl, Nat.zero_le 1, ?_⟩
        have h0 : fs[0]? = some (0, 0, 9) := by
          rw [show gc_ty[0]? = some _ from rfl] at hfs
          cases hfs
          rfl
        rw [hf] at h0
        cases h0
        exact ⟨st, rfl, hst.1, hst.2⟩
      | i + 1 => exact Or.inl (show (List.tail (co0 ((fm_u (cg ws) 0 0 st) 0) (cl_ ws 0)))[i]? = (List.tail (co0 (cg ws 0) (cl_ ws 0)))[i]? from rfl)
    · rw [show lw_twC[2]? = some 2 by decide +kernel] at ht
      cases ht
      cases he'
      exact Or.inr (Or.inr (Or.inl ⟨60, b' 2, _, rfl, rfl, fun i hi => ⟨_, rfl, Int64.le_toInt _, by have := Int64.toInt_lt (b' 2 i); show _ ≤ (9223372036854775807 : Int); omega⟩⟩))
    · rw [show lw_twC[3]? = some 2 by decide +kernel] at ht
      cases ht
      cases he'
      exact Or.inr (Or.inr (Or.inl ⟨60, b' 3, _, rfl, rfl, fun i hi => ⟨_, rfl, Int64.le_toInt _, by have := Int64.toInt_lt (b' 3 i); show _ ≤ (9223372036854775807 : Int); omega⟩⟩))
    · rw [show lw_twC[4]? = some 2 by decide +kernel] at ht
      cases ht
      cases he'
      exact Or.inr (Or.inr (Or.inl ⟨60, b' 4, _, rfl, rfl, fun i hi => ⟨_, rfl, Int64.le_toInt _, by have := Int64.toInt_lt (b' 4 i); show _ ≤ (9223372036854775807 : Int); omega⟩⟩))
    · rw [show lw_twC[5]? = some 2 by decide +kernel] at ht
      cases ht
      cases he'
      exact Or.inr (Or.inr (Or.inl ⟨60, b' 5, _, rfl, rfl, fun i hi => ⟨_, rfl, Int64.le_toInt _, by have := Int64.toInt_lt (b' 5 i); show _ ≤ (9223372036854775807 : Int); omega⟩⟩))
    · rw [show lw_twC[6]? = some 3 by decide +kernel] at ht
      cases ht
      cases he'
      exact Or.inr (Or.inl ⟨.int, 4, a' 6, _, Or.inl rfl, rfl, rfl, fun i hi => ⟨_, rfl, (hbd i hi).1.1, (hbd i hi).1.2⟩⟩)
    · rw [show lw_twC[7]? = some 4 by decide +kernel] at ht
      cases ht
      cases he'
      exact Or.inr (Or.inl ⟨.int, 4, a' 7, _, Or.inl rfl, rfl, rfl, fun i hi => ⟨_, rfl, (hbd i hi).2.1, (hbd i hi).2.2⟩⟩)
  · rw [hfst, ← hX.2 z hz]
    rcases gs_ne z hz with ⟨h0, h1⟩ | hj
    · obtain ⟨j, i, kk⟩ := z
      obtain rfl : j = 0 := h0
      obtain ⟨q, hq⟩ := hw (j := 0) (by decide)
      rw [hw_at hq rfl, hw_at0 h4 h5 hq (by rw [hcm]; rfl)]
      show ((co0 ((fm_u (cg ws) 0 0 st) 0) (cl_ ws 0)).map (fx_v (hc_ps ws)))[i]? = ((co0 (cg ws 0) (cl_ ws 0)).map (fx_v (hc_ps ws)))[i]?
      rw [List.getElem?_map, List.getElem?_map]
      match i, h1 with
      | 0, h1 => exact absurd rfl h1
      | i + 1, _ => exact congrArg (Option.map (fx_v (hc_ps ws))) (show (List.tail (co0 ((fm_u (cg ws) 0 0 st) 0) (cl_ ws 0)))[i]? = (List.tail (co0 (cg ws 0) (cl_ ws 0)))[i]? from rfl)
    · have hlt : z.1 < 270 := by
        have : ∀ z ∈ gs_L, z.1 < 270 := by decide
        exact this z hz
      obtain ⟨q, hq⟩ := hw hlt
      have hlt2 : z.1 < (cm (fm_u (cg ws) 0 0 st) (cl_ ws) a' b' R).length := by rw [hlen]; omega
      have he : (cm (fm_u (cg ws) 0 0 st) (cl_ ws) a' b' R)[z.1]? = some _ := List.getElem?_eq_getElem hlt2
      rw [hw_at hq he, hw_at0 h4 h5 hq (by rw [hcm, ← htl _ hj]; exact he)]
  · obtain ⟨q, hq⟩ := hw (j := j) (by omega)
    exact ⟨_, fun i => hw_at0 h4 h5 hq (by rw [hcm]; exact he)⟩
  · obtain ⟨q, hq⟩ := hw (j := j) (by omega)
    exact ⟨_, fun i => hw_at hq he⟩
def gn_l : tk_I := ((-9223372036854775808), 9223372036854775807)
theorem av_int {p : tk_I} {q : List (Nat × tk_I)} {av : List Value} (h : rk_A2 lq_av ((0, p) :: q) av) : ∃ (x : Int32) (r : List Value), av = .int x :: r ∧ rk_A2 lq_av q r := by
  obtain ⟨v, r, rfl, h1, h2⟩ := rk_A2.cons h
  rcases h1 with ⟨-, x, rfl, -⟩ | ⟨h1, -⟩
  · exact ⟨x, r, rfl, h2⟩
  · cases h1
theorem av_lng {p : tk_I} {q : List (Nat × tk_I)} {av : List Value} (h : rk_A2 lq_av ((1, p) :: q) av) : ∃ (x : Int64) (r : List Value), av = .long x :: r ∧ rk_A2 lq_av q r := by
  obtain ⟨v, r, rfl, h1, h2⟩ := rk_A2.cons h
  rcases h1 with ⟨h1, -⟩ | ⟨-, x, rfl, -⟩
  · cases h1
  · exact ⟨x, r, rfl, h2⟩
/-- a tray is made -/
def ty_S : ht_S := fun av z s f z' s' f' v => ∃ x q m : Int32, av = [.int x, .int q, .int m] ∧ ((∃ t M, t < 4 ∧ M ≤ 60 ∧ x = nI t ∧ m = nI M ∧ ty_ok x q m ∧ v = .int 1 ∧ z' = upd z t m ∧ s' = upd s t q ∧ ∀ u, u < 4 → ∀ i, i < 60 → i < M ∨ u ≠ t → f' u i = if u = t then 0 else f u i) ∨ ¬ ty_ok x q m ∧ v = .int 0 ∧ z' = z ∧ s' = s ∧ f' = f)
/-- a number is written -/
def wr_S : ht_S := fun av z s f z' s' f' v => ∃ (x p : Int32) (n : Int64), av = [.int x, .int p, .long n] ∧ z' = z ∧ s' = s ∧ ((∃ t P, t < 4 ∧ x = nI t ∧ p = nI P ∧ P < 60 ∧ (P : Int) < (z t).toInt ∧ v = .int 1 ∧ ∀ u, u < 4 → ∀ i, i < 60 → f' u i = if u = t ∧ i = P then tc_cut (s t) n else f u i) ∨ ¬ tp_ok z x p ∧ v = .int 0 ∧ f' = f)
def rd_S : ht_S := fun av z s f z' s' f' v => ∃ x p : Int32, av = [.int x, .int p] ∧ z' = z ∧ s' = s ∧ f' = f ∧ ((∃ t P, t < 4 ∧ x = nI t ∧ p = nI P ∧ P < 60 ∧ (P : Int) < (z t).toInt ∧ v = .long (f t P)) ∨ ¬ tp_ok z x p ∧ v = .long (-1))
def pr_S : ht_S := fun av z s f z' s' f' v => ∃ x p y q n : Int32, av = [.int x, .int p, .int y, .int q, .int n] ∧ z' = z ∧ s' = s ∧ ((∃ t u P Q N, t < 4 ∧ u < 4 ∧ x = nI t ∧ y = nI u ∧ p = nI P ∧ q = nI Q ∧ n = nI N ∧ (P + N : Nat) ≤ (z t).toInt ∧ (Q + N : Nat) ≤ (z u).toInt ∧ P + N ≤ 60 ∧ Q + N ≤ 60 ∧ s t = s u ∧ v = .int 1 ∧ ∀ w, w < 4 → ∀ i, i < 60 → f' w i = if w = u ∧ Q ≤ i ∧ i < Q + N then f t (P + (i - Q)) else f w i) ∨ ¬ pr_ok z s x p y q n ∧ v = .int 0 ∧ f' = f)
theorem fm_uf_n {b : Nat → Nat → Int64} {j k : Nat} {f : Nat → Int64} (h : k ≠ j) : fm_uf b j f k = b k := if_neg h
theorem tt_upd {z : Nat → Int32} {t : Nat} {m : Int32} {lo hi : Int} (h : ∀ t, t < 4 → lo ≤ (z t).toInt ∧ (z t).toInt ≤ hi) (hm : lo ≤ m.toInt ∧ m.toInt ≤ hi) : ∀ u, u < 4 → lo ≤ (upd z t m u).toInt ∧ (upd z t m u).toInt ≤ hi := by
  intro u hu
  by_cases e : u = t
  · rw [e, pk_us]; exact hm
  · rw [pk_un e]; exact h u hu
theorem ty_semC (hxt : tk_xtok xt) : lw_sem l D xt gc_TY hg_X ads lw_twC 6 130 [0, 0, 0] [gn_i, gn_i, gn_i] (ht_Q tc_V ty_S) := by
  refine ht_sem (k := 2) hxt (fun rest g l' a b R hr hs hz => ?_)
  obtain ⟨x, r1, rfl, k1⟩ := av_int hr
  obtain ⟨q, r2, rfl, k2⟩ := av_int k1
  obtain ⟨m, r3, rfl, k3⟩ := av_int k2
  obtain rfl := k3.nil
  obtain ⟨v, mem', ⟨z, st, a', b', hst, hh, hR⟩, hrun⟩ := ha_tray (g := g) (l := l') (a := a) (b := b) (R := R) (x := x) (s := q) (m := m)
  cases hR
  refine ⟨.int z, st, a', b', Nat.zero_le 1, hrun, hst, ?_⟩
  rcases hh with ⟨t, ht, rfl, hok, rfl, rfl, rfl⟩ | ⟨hno, rfl, rfl, rfl⟩
  · obtain ⟨M, hM, rfl⟩ := nI_bd (x := m) (n := 60) hok.2.2.1 hok.2.2.2
    have e6 : (fm_u (fm_u a 6 t q) 7 t (nI M)) 6 = upd (a 6) t q := rfl
    have e7 : (fm_u (fm_u a 6 t q) 7 t (nI M)) 7 = upd (a 7) t (nI M) := rfl
    refine ⟨fun j h6 h7 => (if_neg h7).trans (if_neg h6), fun j hj => fm_uf_n (by omega), fun u hu => ?_, nI t, q, nI M, rfl, Or.inl ⟨t, M, ht, hM, rfl, rfl, hok, rfl, e7, e6, fun u hu i hi hiM => ?_⟩⟩
    · rw [e6, e7]
      exact ⟨tt_upd hs hok.2.1 u hu, tt_upd hz ⟨by have := hok.2.2.1; omega, hok.2.2.2⟩ u hu⟩
    · show fm_uf b (2 + t) (tc_f (b (2 + t)) 60 0) (2 + u) i = _
      by_cases e : u = t
      · rw [if_pos e, e, fm_uf_s]
        exact if_pos hi
      · rw [if_neg e, fm_uf_n (by omega)]
  · exact ⟨fun _ _ _ => rfl, fun _ _ => rfl, fun u hu => ⟨hs u hu, hz u hu⟩, x, q, m, rfl, Or.inr ⟨hno, rfl, rfl, rfl, rfl⟩⟩
theorem wr_semC (hxt : tk_xtok xt) : lw_sem l D xt gc_TY hg_X ads lw_twC 7 131 [0, 0, 1] [gn_i, gn_i, gn_l] (ht_Q tc_V wr_S) := by
  refine ht_sem (k := 3) hxt (fun rest g l' a b R hr hs hz => ?_)
  obtain ⟨x, r1, rfl, k1⟩ := av_int hr
  obtain ⟨p, r2, rfl, k2⟩ := av_int k1
  obtain ⟨n, r3, rfl, k3⟩ := av_lng k2
  obtain rfl := k3.nil
  obtain ⟨v, mem', ⟨z, st, b', hst, hh, hR⟩, hrun⟩ := ha_write (g := g) (l := l') (a := a) (b := b) (R := R) (x := x) (p := p) (w := n) (fun t ht => (hz t ht).2) hs
  cases hR
  refine ⟨.int z, st, a, b', Nat.zero_le 1, hrun, hst, fun _ _ _ => rfl, ?_⟩
  rcases hh with ⟨t, P, ht, rfl, rfl, hP, hPz, rfl, rfl⟩ | ⟨hno, rfl, rfl⟩
  · refine ⟨fun j hj => fm_uf_n (by omega), fun u hu => ⟨hs u hu, hz u hu⟩, nI t, nI P, n, rfl, rfl, rfl, Or.inl ⟨t, P, ht, rfl, rfl, hP, hPz, rfl, fun u hu i hi => ?_⟩⟩
    show fm_uf b (2 + t) (vp_updL (b (2 + t)) P (tc_cut (a 6 t) n)) (2 + u) i = _
    by_cases e : u = t
    · rw [e, fm_uf_s]
      unfold vp_updL
      by_cases e2 : i = P
      · rw [if_pos e2, if_pos ⟨rfl, e2⟩]
      · rw [if_neg e2, if_neg (fun z => e2 z.2)]
    · rw [if_neg (fun z => e z.1), fm_uf_n (by omega)]
  · exact ⟨fun _ _ => rfl, fun u hu => ⟨hs u hu, hz u hu⟩, x, p, n, rfl, rfl, rfl, Or.inr ⟨hno, rfl, rfl⟩⟩
theorem rd_semC (hxt : tk_xtok xt) : lw_sem l D xt gc_TY hg_X ads lw_twC 7 132 [0, 0] [gn_i, gn_i] (ht_Q tc_V rd_S) := by
  refine ht_sem (k := 3) hxt (fun rest g l' a b R hr hs hz => ?_)
  obtain ⟨x, r1, rfl, k1⟩ := av_int hr
  obtain ⟨p, r2, rfl, k2⟩ := av_int k1
  obtain rfl := k2.nil
  obtain ⟨v, mem', ⟨z, st, hst, hh, hR⟩, hrun⟩ := ha_read (g := g) (l := l') (a := a) (b := b) (R := R) (x := x) (p := p) (fun t ht => (hz t ht).2)
  cases hR
  refine ⟨.long z, st, a, b, Nat.le_refl 1, hrun, hst, fun _ _ _ => rfl, fun _ _ => rfl, fun u hu => ⟨hs u hu, hz u hu⟩, x, p, rfl, rfl, rfl, rfl, ?_⟩
  rcases hh with ⟨t, P, ht, rfl, rfl, hP, hPz, rfl⟩ | ⟨hno, rfl⟩
  · exact Or.inl ⟨t, P, ht, rfl, rfl, hP, hPz, rfl⟩
  · exact Or.inr ⟨hno, rfl⟩
theorem pr_semC (hxt : tk_xtok xt) : lw_sem l D xt gc_TY hg_X ads lw_twC 6 133 [0, 0, 0, 0, 0] [gn_i, gn_i, gn_i, gn_i, gn_i] (ht_Q tc_V pr_S) := by
  refine ht_sem (k := 2) hxt (fun rest g l' a b R hr hs hz => ?_)
  obtain ⟨x, r1, rfl, k1⟩ := av_int hr
  obtain ⟨p, r2, rfl, k2⟩ := av_int k1
  obtain ⟨y, r3, rfl, k3⟩ := av_int k2
  obtain ⟨q, r4, rfl, k4⟩ := av_int k3
  obtain ⟨n, r5, rfl, k5⟩ := av_int k4
  obtain rfl := k5.nil
  obtain ⟨v, mem', ⟨z, st, b', hst, hh, hR⟩, hrun⟩ := ha_pour (g := g) (l := l') (a := a) (b := b) (R := R) (x := x) (p := p) (y := y) (q := q) (n := n) (fun t ht => (hz t ht).2)
  cases hR
  refine ⟨.int z, st, a, b', Nat.zero_le 1, hrun, hst, fun _ _ _ => rfl, ?_⟩
  rcases hh with ⟨t, u, P, Q, N, ht, hu, rfl, rfl, rfl, rfl, rfl, h1, h2, h3, rfl, rfl⟩ | ⟨hno, rfl, rfl⟩
  · refine ⟨fun j hj => fm_uf_n (by omega), fun u hu => ⟨hs u hu, hz u hu⟩, nI t, nI P, nI u, nI Q, nI N, rfl, rfl, rfl, Or.inl ⟨t, u, P, Q, N, ht, hu, rfl, rfl, rfl, rfl, rfl, h1, h2, by have := hz t ht; omega, by have := hz u hu; omega, h3, rfl, fun w hw i hi => ?_⟩⟩
    show fm_uf b (2 + u) (va_cpy (b (2 + t)) (b (2 + u)) P Q N) (2 + w) i = _
    by_cases e : w = u
    · rw [e, fm_uf_s]
      unfold va_cpy
      by_cases e2 : Q ≤ i ∧ i < Q + N
      · rw [if_pos e2, if_pos ⟨rfl, e2⟩]
      · rw [if_neg e2, if_neg (fun z => e2 z.2)]
    · rw [if_neg (fun z => e z.1), fm_uf_n (by omega)]
  · exact ⟨fun _ _ => rfl, fun u hu => ⟨hs u hu, hz u hu⟩, x, p, y, q, n, rfl, rfl, rfl, Or.inr ⟨hno, rfl, rfl⟩⟩
end HTS
