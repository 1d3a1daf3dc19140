/-! ===== lakes and tape: their places in the class's world and the model's ===== -/
def cw_LO : List (Nat × Nat) := [(0, 13), (9, 2), (9, 10), (9, 11), (15, 8), (26, 7), (34, 7), (192, 8), (203, 7), (211, 7), (218, 8), (229, 7), (237, 7), (244, 8), (255, 7), (263, 7)]
def cw_LA : List (Nat × Nat) := [(10, 900)]
def cw_LB : List (Nat × Nat) := [(16, 10), (27, 8), (193, 10), (204, 8), (219, 10), (230, 8), (245, 10), (256, 8)]
/-- what stands at those places of the class's world -/
def cw_V (ws : va_W) (g a : Nat → Nat → Int32) (b : Nat → Nat → Int64) : Prop := (∀ z ∈ cw_LO, lw_at ws z = some (.int (g z.1 z.2))) ∧ (∀ z ∈ cw_LA, ∀ i, i < z.2 → lw_at ws (z.1, i) = some (.int (a z.1 i))) ∧ ∀ z ∈ cw_LB, ∀ i, i < z.2 → lw_at ws (z.1, i) = some (.long (b z.1 i))
def cw_W : List (Nat × Nat) := cw_LO ++ ((cw_LA ++ cw_LB).flatMap (fun z => (List.range z.2).map (fun i => (z.1, i))))
theorem cw_WA {z : Nat × Nat} {i : Nat} (hz : z ∈ cw_LA ++ cw_LB) (hi : i < z.2) : (z.1, i) ∈ cw_W := List.mem_append_right _ (List.mem_flatMap.mpr ⟨z, hz, List.mem_map.mpr ⟨i, List.mem_range.mpr hi, rfl⟩⟩)
theorem cw_keep {ws ws' : va_W} {g a : Nat → Nat → Int32} {b : Nat → Nat → Int64} (h : cw_V ws g a b) (hk : ∀ z ∈ cw_W, lw_at ws' z = lw_at ws z) : cw_V ws' g a b := ⟨fun z hz => (hk z (List.mem_append_left _ hz)).trans (h.1 z hz), fun z hz i hi => (hk (z.1, i) (cw_WA (List.mem_append_left _ hz) hi)).trans (h.2.1 z hz i hi), fun z hz i hi => (hk (z.1, i) (cw_WA (List.mem_append_right _ hz) hi)).trans (h.2.2 z hz i hi)⟩
/-- the references of the kept lakes stand, too -/
def h3_X (ws : va_W) : Prop := h2_X ws ∧ gx ws
def h3_W : List (Nat × Nat) := h2_W ++ gx_L.map (fun z => (z.1, z.2.1))
theorem lw_sem_h3 {l : Launch} {D : va_G} {xt : tk_XT} {ads : List Nat} {d f : Nat} {kinds : List Nat} {envs : List tk_I} {Q : List Value → va_W → va_W → Value → Prop} (h : lw_sem l D xt gc_TY (gc_X lw_twC) ads lw_twC d f kinds envs Q) (hQ : ∀ av ws ws' v, Q av ws ws' v → ∀ z ∈ h3_W, lw_at ws' z = lw_at ws z) : lw_sem l D xt gc_TY h3_X ads lw_twC d f kinds envs Q := by
  have h0 := lw_sem_h2 h (fun av ws ws' v hq z hz => hQ av ws ws' v hq z (List.mem_append_left _ hz))
  intro q hq
  obtain ⟨M, h1, h2, h3⟩ := h0 q hq
  refine ⟨M, h1, h2, fun ax ws av sz a1 a2 a3 a4 => rk_Met_case (fun aU U hP => ?_)⟩
  obtain ⟨p1, p2, p3, p4, p5, p6, p7, p8, p10⟩ := hP
  refine ⟨_, _, h3 ax ws av sz a1 a2 a3 a4, ⟨p1, p2, p3, p4, p5, p6, p7, p8, p10.1⟩, ?_⟩
  rintro oc t - ⟨⟨ws', v, b1, b2, b3, b4, b5, b6, b7⟩, hF⟩
  refine ⟨⟨ws', v, b1, b2, b3, b4, ⟨b5, fun z hz => ?_⟩, b6, b7⟩, hF⟩
  rw [hQ _ _ _ _ b6 (z.1, z.2.1) (List.mem_append_right _ (List.mem_map.mpr ⟨z, hz, rfl⟩)), p10.2 z hz]
  have e : ∀ (w : va_W) (k : Nat), (w[k]?).map (fun q => Value.ref q.1) = ((w.map Prod.fst)[k]?).map Value.ref := fun w k => by
    rw [List.getElem?_map, Option.map_map]
    rfl
  rw [e, e, b1, a3]
theorem cR_eq {g g' : Nat → Nat → Int32} {l l' : Nat → Nat → Int64} {a a' : Nat → Nat → Int32} {b b' : Nat → Nat → Int64} {R : (Nat → fx_E) × fx_M} (h : ∀ j, 67 ≤ j → g' j = g j ∧ a' j = a j ∧ b' j = b j) : cR g' l' a' b' R = cR g l a b R := by
  have e1 : g' = fun j => cond (Nat.ble 67 j) (g j) (g' j) := funext (fun j => by
    show g' j = cond (Nat.ble 67 j) (g j) (g' j)
    cases e : Nat.ble 67 j with
    | true => exact (h j (Nat.le_of_ble_eq_true e)).1
    | false => rfl)
  have e2 : a' = fun j => cond (Nat.ble 67 j) (a j) (a' j) := funext (fun j => by
    show a' j = cond (Nat.ble 67 j) (a j) (a' j)
    cases e : Nat.ble 67 j with
    | true => exact (h j (Nat.le_of_ble_eq_true e)).2.1
    | false => rfl)
  have e3 : b' = fun j => cond (Nat.ble 67 j) (b j) (b' j) := funext (fun j => by
    show b' j = cond (Nat.ble 67 j) (b j) (b' j)
    cases e : Nat.ble 67 j with
    | true => exact (h j (Nat.le_of_ble_eq_true e)).2.2
    | false => rfl)
  rw [e1, e2, e3]
  rfl
theorem i01 {x : Int32} (h : (0 : Int) ≤ x.toInt ∧ x.toInt ≤ 1) : x = 0 ∨ x = 1 := by
  rcases (by omega : x.toInt = 0 ∨ x.toInt = 1) with e | e
  · exact Or.inl (Int32.toInt_inj.mp e)
  · exact Or.inr (Int32.toInt_inj.mp e)
section CXW
variable {l : Launch} {D : va_G} {xt : tk_XT} {ads : List Nat}
/-- what the class's memory is known to be, as a call begins -/
def cx_in (g : Nat → Nat → Int32) (a : Nat → Nat → Int32) (b : Nat → Nat → Int64) : Prop := opn a ∧ ((0 ≤ (g 9 2).toInt ∧ (g 9 2).toInt ≤ 900) ∧ (0 ≤ (g 0 13).toInt ∧ (g 0 13).toInt ≤ 3) ∧ (0 ≤ (g 15 8).toInt ∧ (g 15 8).toInt ≤ 10) ∧ (0 ≤ (g 26 7).toInt ∧ (g 26 7).toInt ≤ 8)) ∧ (∀ i, i < 900 → (-128 : Int) ≤ (a 10 i).toInt ∧ (a 10 i).toInt ≤ 127) ∧ ((∀ i, i < 10 → 0 ≤ (a 17 i).toInt ∧ (a 17 i).toInt ≤ 1023) ∧ ∀ o, o = 34 ∨ o = 211 ∨ o = 237 ∨ o = 263 → g o 7 = 0 ∨ g o 7 = 1) ∧ cr (b 11)
theorem hc_fB {U : State} {ws : va_W} (h5 : rk_A2 (fun b (q : Nat × va_E) => tk_cl gc_TY lc_ro ads lw_twC U b q.2) lw_twC ws) {j t i ci : Nat} {fs : List tk_F} {lo hi : Int} (ht : lw_twC[j]? = some t) (hk : gc_ty[t]? = some (.inl (ci, fs))) (hf : fs[i]? = some (0, lo, hi)) : lw_at ws (j, i) = some (.int (cg ws j i)) ∧ lo ≤ (cg ws j i).toInt ∧ (cg ws j i).toInt ≤ hi := by
  obtain ⟨q, hq, hc⟩ := h5.get ht
  unfold tk_cl at hc
  rw [show gc_TY.1[t]? = _ from hk] at hc
  obtain ⟨vs, e, hl, hvs⟩ := hc
  have hlt : i < vs.length := by rw [hl]; exact (List.getElem?_eq_some_iff.mp hf).1
  obtain ⟨x, hx, h1, h2⟩ : ∃ x : Int32, vs[i] = .int x ∧ lo ≤ x.toInt ∧ x.toInt ≤ hi := hvs i _ _ hf (List.getElem?_eq_getElem hlt)
  have e2 : cg ws j i = x := by
    unfold cg
    rw [hq, show q = (q.1, q.2) from rfl, e]
    dsimp only
    rw [List.getElem?_eq_getElem hlt, hx]
  refine ⟨?_, by rw [e2]; exact h1, by rw [e2]; exact h2⟩
  unfold lw_at
  dsimp only
  rw [hq]
  show tk_pos q.2 i = _
  rw [e, e2]
  show vs[i]? = _
  rw [List.getElem?_eq_getElem hlt, hx]
theorem hc_aB {U : State} {ws : va_W} (h5 : rk_A2 (fun b (q : Nat × va_E) => tk_cl gc_TY lc_ro ads lw_twC U b q.2) lw_twC ws) {j t n : Nat} {kd : FieldType} {fl : tk_F} (ht : lw_twC[j]? = some t) (hk : gc_ty[t]? = some (.inr (kd, n, fl))) (hkd : kd = .int ∨ kd = .byte) : ∀ i, i < n → lw_at ws (j, i) = some (.int (ca ws j i)) := by
  obtain ⟨q, hq, hc⟩ := h5.get ht
  unfold tk_cl at hc
  rw [show gc_TY.1[t]? = _ from hk] at hc
  obtain ⟨cA, -, -, h3⟩ := hc
  obtain ⟨f, e⟩ : ∃ f, q.2 = .inl (cA, n, .inl f) := by
    unfold tk_ar at h3
    rcases hkd with rfl | rfl
    · obtain ⟨f, e, -⟩ := h3; exact ⟨f, e⟩
    · obtain ⟨f, e, -⟩ := h3; exact ⟨f, e⟩
  have e2 : ca ws j = f := by
    unfold ca
    rw [hq, show q = (q.1, q.2) from rfl, e]
  intro i hi
  unfold lw_at
  dsimp only
  rw [hq]
  show tk_pos q.2 i = _
  rw [e, e2]
  show (if i < n then some (Value.int (f i)) else none) = _
  rw [if_pos hi]
theorem hc_lB {U : State} {ws : va_W} (h5 : rk_A2 (fun b (q : Nat × va_E) => tk_cl gc_TY lc_ro ads lw_twC U b q.2) lw_twC ws) {j t n : Nat} {fl : tk_F} (ht : lw_twC[j]? = some t) (hk : gc_ty[t]? = some (.inr (.long, n, fl))) : ∀ i, i < n → lw_at ws (j, i) = some (.long (cb ws j i)) := by
  obtain ⟨q, hq, hc⟩ := h5.get ht
  unfold tk_cl at hc
  rw [show gc_TY.1[t]? = _ from hk] at hc
  obtain ⟨cA, -, -, h3⟩ := hc
  obtain ⟨f, e, -⟩ := (show ∃ f : Nat → Int64, q.2 = .inl (cA, n, .inr (.inl f)) ∧ _ from h3)
  have e2 : cb ws j = f := by
    unfold cb
    rw [hq, show q = (q.1, q.2) from rfl, e]
  intro i hi
  unfold lw_at
  dsimp only
  rw [hq]
  show tk_pos q.2 i = _
  rw [e, e2]
  show (if i < n then some (Value.long (f i)) else none) = _
  rw [if_pos hi]
theorem cw_in {U : State} {ws : va_W} (h5 : rk_A2 (fun b (q : Nat × va_E) => tk_cl gc_TY lc_ro ads lw_twC U b q.2) lw_twC ws) : cw_V ws (cg ws) (ca ws) (cb ws) := by
  refine ⟨fun z hz => ?_, fun z hz => ?_, fun z hz => ?_⟩
  · simp only [cw_LO, List.mem_cons, List.not_mem_nil, or_false] at hz
    rcases hz with rfl | rfl | rfl | rfl | rfl | rfl | rfl | rfl | rfl | rfl | rfl | rfl | rfl | rfl | rfl | rfl
    · exact (hc_fB h5 (show lw_twC[0]? = some 0 by decide +kernel) rfl rfl).1
    · exact (hc_fB h5 (show lw_twC[9]? = some 6 by decide +kernel) rfl rfl).1
    · exact (hc_fB h5 (show lw_twC[9]? = some 6 by decide +kernel) rfl rfl).1
    · exact (hc_fB h5 (show lw_twC[9]? = some 6 by decide +kernel) rfl rfl).1
    · exact (hc_fB h5 (show lw_twC[15]? = some 12 by decide +kernel) rfl rfl).1
    · exact (hc_fB h5 (show lw_twC[26]? = some 23 by decide +kernel) rfl rfl).1
    · exact (hc_fB h5 (show lw_twC[34]? = some 31 by decide +kernel) rfl rfl).1
    · exact (hc_fB h5 (show lw_twC[192]? = some 65 by decide +kernel) rfl rfl).1
    · exact (hc_fB h5 (show lw_twC[203]? = some 76 by decide +kernel) rfl rfl).1
    · exact (hc_fB h5 (show lw_twC[211]? = some 84 by decide +kernel) rfl rfl).1
    · exact (hc_fB h5 (show lw_twC[218]? = some 65 by decide +kernel) rfl rfl).1
    · exact (hc_fB h5 (show lw_twC[229]? = some 76 by decide +kernel) rfl rfl).1
    · exact (hc_fB h5 (show lw_twC[237]? = some 84 by decide +kernel) rfl rfl).1
    · exact (hc_fB h5 (show lw_twC[244]? = some 65 by decide +kernel) rfl rfl).1
    · exact (hc_fB h5 (show lw_twC[255]? = some 76 by decide +kernel) rfl rfl).1
    · exact (hc_fB h5 (show lw_twC[263]? = some 84 by decide +kernel) rfl rfl).1
  · simp only [cw_LA, List.mem_cons, List.not_mem_nil, or_false] at hz
    subst hz
    exact hc_aB h5 (show lw_twC[10]? = some 7 by decide +kernel) rfl (Or.inr rfl)
  · simp only [cw_LB, List.mem_cons, List.not_mem_nil, or_false] at hz
    rcases hz with rfl | rfl | rfl | rfl | rfl | rfl | rfl | rfl
    · exact hc_lB h5 (show lw_twC[16]? = some 13 by decide +kernel) rfl
    · exact hc_lB h5 (show lw_twC[27]? = some 24 by decide +kernel) rfl
    · exact hc_lB h5 (show lw_twC[193]? = some 66 by decide +kernel) rfl
    · exact hc_lB h5 (show lw_twC[204]? = some 77 by decide +kernel) rfl
    · exact hc_lB h5 (show lw_twC[219]? = some 66 by decide +kernel) rfl
    · exact hc_lB h5 (show lw_twC[230]? = some 77 by decide +kernel) rfl
    · exact hc_lB h5 (show lw_twC[245]? = some 66 by decide +kernel) rfl
    · exact hc_lB h5 (show lw_twC[256]? = some 77 by decide +kernel) rfl
theorem cw_out {ws ws' : va_W} {g' : Nat → Nat → Int32} {l' : Nat → Nat → Int64} {a' : Nat → Nat → Int32} {b' : Nat → Nat → Int64} {R' : (Nat → fx_E) × fx_M} (h : hc_two D ads ws ws' (cx g' l' a' b' R')) : cw_V ws' g' a' b' := by
  refine ⟨fun z hz => ?_, fun z hz => ?_, fun z hz => ?_⟩
  · simp only [cw_LO, List.mem_cons, List.not_mem_nil, or_false] at hz
    rcases hz with rfl | rfl | rfl | rfl | rfl | rfl | rfl | rfl | rfl | rfl | rfl | rfl | rfl | rfl | rfl | rfl
    · exact hc_two_O h (show lw_twC[0]? = some 0 by decide +kernel) rfl rfl rfl rfl (show (cx g' l' a' b' R')[0]? = some (.inl (11, co0 (g' 0) (l' 0))) from rfl) rfl (Nat.zero_le 1)
    · exact hc_two_O h (show lw_twC[9]? = some 6 by decide +kernel) rfl rfl rfl rfl (show (cx g' l' a' b' R')[9]? = some (.inl (8, co9 (g' 9) (l' 9))) from rfl) rfl (Nat.zero_le 1)
    · exact hc_two_O h (show lw_twC[9]? = some 6 by decide +kernel) rfl rfl rfl rfl (show (cx g' l' a' b' R')[9]? = some (.inl (8, co9 (g' 9) (l' 9))) from rfl) rfl (Nat.zero_le 1)
    · exact hc_two_O h (show lw_twC[9]? = some 6 by decide +kernel) rfl rfl rfl rfl (show (cx g' l' a' b' R')[9]? = some (.inl (8, co9 (g' 9) (l' 9))) from rfl) rfl (Nat.zero_le 1)
    · exact hc_two_O h (show lw_twC[15]? = some 12 by decide +kernel) rfl rfl rfl rfl (show (cx g' l' a' b' R')[15]? = some (.inl (3, co15 (g' 15) (l' 15))) from rfl) rfl (Nat.zero_le 1)
    · exact hc_two_O h (show lw_twC[26]? = some 23 by decide +kernel) rfl rfl rfl rfl (show (cx g' l' a' b' R')[26]? = some (.inl (0, co26 (g' 26) (l' 26))) from rfl) rfl (Nat.zero_le 1)
    · exact hc_two_O h (show lw_twC[34]? = some 31 by decide +kernel) rfl rfl rfl rfl (show (cx g' l' a' b' R')[34]? = some (.inl (9, co34 (g' 34) (l' 34))) from rfl) rfl (Nat.zero_le 1)
    · exact hc_two_O h (show lw_twC[192]? = some 65 by decide +kernel) rfl rfl rfl rfl (show (cx g' l' a' b' R')[192]? = some (.inl (3, co192 (g' 192) (l' 192))) from rfl) rfl (Nat.zero_le 1)
    · exact hc_two_O h (show lw_twC[203]? = some 76 by decide +kernel) rfl rfl rfl rfl (show (cx g' l' a' b' R')[203]? = some (.inl (0, co203 (g' 203) (l' 203))) from rfl) rfl (Nat.zero_le 1)
    · exact hc_two_O h (show lw_twC[211]? = some 84 by decide +kernel) rfl rfl rfl rfl (show (cx g' l' a' b' R')[211]? = some (.inl (9, co211 (g' 211) (l' 211))) from rfl) rfl (Nat.zero_le 1)
    · exact hc_two_O h (show lw_twC[218]? = some 65 by decide +kernel) rfl rfl rfl rfl (show (cx g' l' a' b' R')[218]? = some (.inl (3, co218 (g' 218) (l' 218))) from rfl) rfl (Nat.zero_le 1)
    · exact hc_two_O h (show lw_twC[229]? = some 76 by decide +kernel) rfl rfl rfl rfl (show (cx g' l' a' b' R')[229]? = some (.inl (0, co229 (g' 229) (l' 229))) from rfl) rfl (Nat.zero_le 1)
    · exact hc_two_O h (show lw_twC[237]? = some 84 by decide +kernel) rfl rfl rfl rfl (show (cx g' l' a' b' R')[237]? = some (.inl (9, co237 (g' 237) (l' 237))) from rfl) rfl (Nat.zero_le 1)
    · exact hc_two_O h (show lw_twC[244]? = some 65 by decide +kernel) rfl rfl rfl rfl (show (cx g' l' a' b' R')[244]? = some (.inl (3, co244 (g' 244) (l' 244))) from rfl) rfl (Nat.zero_le 1)
    · exact hc_two_O h (show lw_twC[255]? = some 76 by decide +kernel) rfl rfl rfl rfl (show (cx g' l' a' b' R')[255]? = some (.inl (0, co255 (g' 255) (l' 255))) from rfl) rfl (Nat.zero_le 1)
    · exact hc_two_O h (show lw_twC[263]? = some 84 by decide +kernel) rfl rfl rfl rfl (show (cx g' l' a' b' R')[263]? = some (.inl (9, co263 (g' 263) (l' 263))) from rfl) rfl (Nat.zero_le 1)
  · simp only [cw_LA, List.mem_cons, List.not_mem_nil, or_false] at hz
    subst hz
    exact hc_two_I h (show lw_twC[10]? = some 7 by decide +kernel) rfl (Or.inr rfl) (show (cx g' l' a' b' R')[10]? = some (.inr (.byte, 900, .inl (a' 10))) from rfl)
  · simp only [cw_LB, List.mem_cons, List.not_mem_nil, or_false] at hz
    rcases hz with rfl | rfl | rfl | rfl | rfl | rfl | rfl | rfl
    · exact hc_two_L h (show lw_twC[16]? = some 13 by decide +kernel) rfl (show (cx g' l' a' b' R')[16]? = some (.inr (.long, 10, .inr (.inl (b' 16)))) from rfl)
    · exact hc_two_L h (show lw_twC[27]? = some 24 by decide +kernel) rfl (show (cx g' l' a' b' R')[27]? = some (.inr (.long, 8, .inr (.inl (b' 27)))) from rfl)
    · exact hc_two_L h (show lw_twC[193]? = some 66 by decide +kernel) rfl (show (cx g' l' a' b' R')[193]? = some (.inr (.long, 10, .inr (.inl (b' 193)))) from rfl)
    · exact hc_two_L h (show lw_twC[204]? = some 77 by decide +kernel) rfl (show (cx g' l' a' b' R')[204]? = some (.inr (.long, 8, .inr (.inl (b' 204)))) from rfl)
    · exact hc_two_L h (show lw_twC[219]? = some 66 by decide +kernel) rfl (show (cx g' l' a' b' R')[219]? = some (.inr (.long, 10, .inr (.inl (b' 219)))) from rfl)
    · exact hc_two_L h (show lw_twC[230]? = some 77 by decide +kernel) rfl (show (cx g' l' a' b' R')[230]? = some (.inr (.long, 8, .inr (.inl (b' 230)))) from rfl)
    · exact hc_two_L h (show lw_twC[245]? = some 66 by decide +kernel) rfl (show (cx g' l' a' b' R')[245]? = some (.inr (.long, 10, .inr (.inl (b' 245)))) from rfl)
    · exact hc_two_L h (show lw_twC[256]? = some 77 by decide +kernel) rfl (show (cx g' l' a' b' R')[256]? = some (.inr (.long, 8, .inr (.inl (b' 256)))) from rfl)
/-- a call of the class, typed and exact -/
theorem cx_sem (hxt : tk_xtok xt) {k f : Nat} {kinds : List Nat} {envs : List tk_I} {Q0 : List Value → va_W → va_W → Value → Prop} {S : List Value → (Nat → Nat → Int32) → (Nat → Nat → Int32) → (Nat → Nat → Int64) → (Nat → Nat → Int32) → (Nat → Nat → Int32) → (Nat → Nat → Int64) → Value → Prop} (hd : k + 4 ≤ 20) (hK : lw_sem l D xt gc_TY h3_X ads lw_twC 20 f kinds envs Q0)
    (hex : ∀ (rest : List Value) (g : Nat → Nat → Int32) (l' : Nat → Nat → Int64) (a : Nat → Nat → Int32) (b : Nat → Nat → Int64) (R : (Nat → fx_E) × fx_M), rk_A2 lq_av (kinds.zip envs) rest → cx_in g a b → ∃ (v : Value) (g' : Nat → Nat → Int32) (l'' : Nat → Nat → Int64) (a' : Nat → Nat → Int32) (b' : Nat → Nat → Int64), fx_kd v ≤ 1 ∧ hr_T k f (.ref 0 :: rest) (cx g l' a b R) (some v) (cx g' l'' a' b' R) ∧ S rest g a b g' a' b' v) : lw_sem l D xt gc_TY h3_X ads lw_twC 20 f kinds envs (fun av ws ws' v => Q0 av ws ws' v ∧ ∃ g a b g' a' b', cw_V ws g a b ∧ cw_V ws' g' a' b' ∧ S av g a b g' a' b' v) := by
  refine lw_sem_imp (hc_sem2 (Q1 := fun rest ws mem' v => ∃ (g a g' : Nat → Nat → Int32) (b : Nat → Nat → Int64) (l'' : Nat → Nat → Int64) (a' : Nat → Nat → Int32) (b' : Nat → Nat → Int64) (R : (Nat → fx_E) × fx_M), cw_V ws g a b ∧ mem' = cx g' l'' a' b' R ∧ S rest g a b g' a' b' v) hxt hd hK (fun U ax rest ws hty hrest h5 h4 hD hX => ?_)) ?_
  · have hcx := hc_cx h4 h5 hD hX.1.1.2 hX.2
    generalize (hc_q ads ws, (hc_mem ads lw_twC ws).drop 270) = R0 at hcx
    have hin : cx_in (cg ws) (ca ws) (cb ws) := by
      refine ⟨hc_bdI h5 (show lw_twC[14]? = some 11 by decide +kernel) rfl, ⟨(hc_fB h5 (show lw_twC[9]? = some 6 by decide +kernel) rfl rfl).2, (hc_fB h5 (show lw_twC[0]? = some 0 by decide +kernel) rfl rfl).2, (hc_fB h5 (show lw_twC[15]? = some 12 by decide +kernel) rfl rfl).2, (hc_fB h5 (show lw_twC[26]? = some 23 by decide +kernel) rfl rfl).2⟩, hc_bdB h5 (show lw_twC[10]? = some 7 by decide +kernel) rfl, ⟨hc_bdI h5 (show lw_twC[17]? = some 14 by decide +kernel) rfl, fun o ho => by
        rcases ho with rfl | rfl | rfl | rfl
        · exact i01 (hc_fB h5 (show lw_twC[34]? = some 31 by decide +kernel) rfl rfl).2
        · exact i01 (hc_fB h5 (show lw_twC[211]? = some 84 by decide +kernel) rfl rfl).2
        · exact i01 (hc_fB h5 (show lw_twC[237]? = some 84 by decide +kernel) rfl rfl).2
        · exact i01 (hc_fB h5 (show lw_twC[263]? = some 84 by decide +kernel) rfl rfl).2⟩, fun k w hw => ?_⟩
      have hk : k < 23 := (List.getElem?_eq_some_iff.mp hw).1
      have h1 := hX.1.2 k w hw
      obtain ⟨q11, k11⟩ : ∃ q, ws[11]? = some q := ⟨_, List.getElem?_eq_getElem (by rw [h5.len.symm, lw_lenC]; decide)⟩
      rw [hw_at0 (i := k) h4 h5 k11 (show (hc_mem ads lw_twC ws)[11]? = some (.inr (.long, 23, .inr (.inl (cb ws 11)))) by rw [hcx]; rfl)] at h1
      have h1 : (if k < 23 then some (Value.long (cb ws 11 k)) else none) = _ := h1
      rw [if_pos hk] at h1
      exact Value.long.inj (Option.some.inj h1)
    obtain ⟨v, g', l'', a', b', z1, z2, z3⟩ := hex rest (cg ws) (cl_ ws) (ca ws) (cb ws) R0 hrest hin
    exact ⟨v, cx g' l'' a' b' R0, z1, by rw [hcx]; exact z2, cg ws, ca ws, g', cb ws, l'', a', b', R0, cw_in h5, rfl, z3⟩
  · rintro av ws ws' v - ⟨h0, mem', ⟨g, a, g', b, l'', a', b', R, h1, rfl, h3⟩, h8⟩
    exact ⟨h0, g, a, b, g', a', b', h1, cw_out h8, h3⟩
end CXW
/-! ===== the model ===== -/
def mw_I : List Nat := (List.range 4).flatMap (fun s => [842 * s, 842 * s + 1, 842 * s + 6])
def mw_G : List Nat := [10, 42, 16, 17]
/-- what stands at those places of the model's world -/
def mw_V (ws : va_W) (g : Nat → Int32) (a : Nat → Nat → Int32) (b : Nat → Nat → Int64) : Prop := (∀ k ∈ mw_G, lw_at ws (0, k) = some (.int (g k))) ∧ (∀ i, i < 900 → lw_at ws (6, i) = some (.int (a 6 i))) ∧ (∀ i ∈ mw_I, lw_at ws (1, i) = some (.int (a 1 i))) ∧ ∀ i, i < 72 → lw_at ws (2, i) = some (.long (b 2 i))
def mw_W : List (Nat × Nat) := mw_G.map (fun k => (0, k)) ++ ((List.range 900).map (fun i => (6, i)) ++ (mw_I.map (fun i => (1, i)) ++ (List.range 72).map (fun i => (2, i))))
theorem mw_lt : ∀ i ∈ mw_I, i < 3368 ∧ fm_st i = true := by decide +kernel
theorem mw_W0 {k : Nat} (h : k ∈ mw_G) : (0, k) ∈ mw_W := List.mem_append_left _ (List.mem_map.mpr ⟨k, h, rfl⟩)
theorem mw_W6 {k : Nat} (h : k < 900) : (6, k) ∈ mw_W := List.mem_append_right _ (List.mem_append_left _ (List.mem_map.mpr ⟨k, List.mem_range.mpr h, rfl⟩))
theorem mw_W1 {k : Nat} (h : k ∈ mw_I) : (1, k) ∈ mw_W := List.mem_append_right _ (List.mem_append_right _ (List.mem_append_left _ (List.mem_map.mpr ⟨k, h, rfl⟩)))
theorem mw_W2 {k : Nat} (h : k < 72) : (2, k) ∈ mw_W := List.mem_append_right _ (List.mem_append_right _ (List.mem_append_right _ (List.mem_map.mpr ⟨k, List.mem_range.mpr h, rfl⟩)))
theorem mw_keep {ws ws' : va_W} {g : Nat → Int32} {a : Nat → Nat → Int32} {b : Nat → Nat → Int64} (h : mw_V ws g a b) (hk : ∀ z ∈ mw_W, lw_at ws' z = lw_at ws z) : mw_V ws' g a b := ⟨fun k hk' => (hk _ (mw_W0 hk')).trans (h.1 k hk'), fun i hi => (hk _ (mw_W6 hi)).trans (h.2.1 i hi), fun i hi => (hk _ (mw_W1 hi)).trans (h.2.2.1 i hi), fun i hi => (hk _ (mw_W2 hi)).trans (h.2.2.2 i hi)⟩
theorem mw_of {ws : va_W} {g : Nat → Int32} {tp bt : Int64} {a : Nat → Nat → Int32} {b : Nat → Nat → Int64} (h : fw_is ws g tp bt a b) : mw_V ws g a b := ⟨fun k hk => by
  simp only [mw_G, List.mem_cons, List.not_mem_nil, or_false] at hk
  rcases hk with rfl | rfl | rfl | rfl
  · exact h.1 10 _ rfl (Nat.zero_le 1)
  · exact h.1 42 _ rfl (Nat.zero_le 1)
  · exact h.1 16 _ rfl (Nat.zero_le 1)
  · exact h.1 17 _ rfl (Nat.zero_le 1), fun i hi => h.2.1 6 900 _ (a 6) i rfl hi, fun i hi => h.2.1 1 5894 _ (a 1) i rfl (by have := (mw_lt i hi).1; omega), fun i hi => h.2.2 2 108 _ (b 2) i rfl (by omega)⟩
theorem mw_eqV {ws' : va_W} {g g' : Nat → Int32} {a a' : Nat → Nat → Int32} {b b' : Nat → Nat → Int64} (h : mw_V ws' g' a' b') (h0 : ∀ k ∈ mw_G, g' k = g k) (h6 : a' 6 = a 6) (h1 : ∀ i ∈ mw_I, a' 1 i = a 1 i) (h2 : ∀ i, i < 72 → b' 2 i = b 2 i) : mw_V ws' g a b := ⟨fun k hk => by rw [← h0 k hk]; exact h.1 k hk, fun i hi => by rw [← h6]; exact h.2.1 i hi, fun i hi => by rw [← h1 i hi]; exact h.2.2.1 i hi, fun i hi => by rw [← h2 i hi]; exact h.2.2.2 i hi⟩
theorem mw_unW {ws ws' : va_W} {g : Nat → Int32} {a : Nat → Nat → Int32} {b : Nat → Nat → Int64} (h1 : mw_V ws g a b) (h3 : mw_V ws' g a b) : ∀ z ∈ mw_W, lw_at ws' z = lw_at ws z := fun z hz => by
  rcases List.mem_append.mp hz with hz | hz
  · obtain ⟨k, hk, rfl⟩ := List.mem_map.mp hz
    exact (h3.1 k hk).trans (h1.1 k hk).symm
  rcases List.mem_append.mp hz with hz | hz
  · obtain ⟨i, hi, rfl⟩ := List.mem_map.mp hz
    exact (h3.2.1 i (List.mem_range.mp hi)).trans (h1.2.1 i (List.mem_range.mp hi)).symm
  rcases List.mem_append.mp hz with hz | hz
  · obtain ⟨i, hi, rfl⟩ := List.mem_map.mp hz
    exact (h3.2.2.1 i hi).trans (h1.2.2.1 i hi).symm
  · obtain ⟨i, hi, rfl⟩ := List.mem_map.mp hz
    exact (h3.2.2.2 i (List.mem_range.mp hi)).trans (h1.2.2.2 i (List.mem_range.mp hi)).symm
section MXW
variable {l : Launch} {D : va_G} {xt : tk_XT} {ads : List Nat}
/-- a call of the model, exact -/
theorem mx_sem (hst : ∀ (Ad : Nat → Prop) (U : State) (H : Heap), xt Ad U H → ∃ pl v tx, sk_X pl v Ad U H ∧ vk_R "GooseIceModel" 189 tx pl U) {k f n : Nat} {mods : List (Nat × Nat)} (hM : fm_ms mods) {S : List Value → (Nat → Int32) → (Nat → Nat → Int32) → (Nat → Nat → Int64) → (Nat → Int32) → (Nat → Nat → Int32) → (Nat → Nat → Int64) → Value → Prop}
    (hex : ∀ (g : Nat → Int32) (tp bt : Int64) (a : Nat → Nat → Int32) (b : Nat → Nat → Int64) (xs : List Int32), xs.length = n → fm_I g a → ∃ (v : Int32) (g' : Nat → Int32) (tp' bt' : Int64) (a' : Nat → Nat → Int32) (b' : Nat → Nat → Int64), fr_T k f (.ref 0 :: xs.map Value.int) (fm g tp bt a b) (some (.int v)) (fm g' tp' bt' a' b') ∧ fm_I g' a' ∧ fm_ffr mods g a b g' a' b' ∧ S (xs.map Value.int) g a b g' a' b' (.int v)) : lw_sem l D xt gn_TY (gn_X lw_twM) ads lw_twM (k + 4) f (List.replicate n 0) (List.replicate n gn_i) (fun av ws ws' v => lr_ty 0 v ∧ ∃ g a b g' a' b', mw_V ws g a b ∧ mw_V ws' g' a' b' ∧ fm_I g a ∧ S av g a b g' a' b' v) := by
  refine lw_sem_imp (fm_sem (k := k) (f := f) (n := n) hst gn_fmTy hM (Q := fun xs g _ _ a b g' _ _ a' b' v => S (xs.map Value.int) g a b g' a' b' (.int v)) hex) ?_
  rintro av ws ws' v - ⟨xs, g, tp, bt, a, b, g', tp', bt', a', b', x, rfl, rfl, k1, k2, k3, -, k4⟩
  exact ⟨⟨_, rfl⟩, g, a, b, g', a', b', mw_of k1, mw_of k2, k3, k4⟩
/-- what a public call leaves as it is -/
def fm_PK (g : Nat → Int32) (a : Nat → Nat → Int32) (b : Nat → Nat → Int64) (R : Option Value × fx_M) : Prop := ∃ (v : Int32) (g' : Nat → Int32) (tp' bt' : Int64) (a' : Nat → Nat → Int32) (b' : Nat → Nat → Int64), R = (some (.int v), fm g' tp' bt' a' b') ∧ (∀ k ∈ mw_G, g' k = g k) ∧ a' 6 = a 6 ∧ (∀ i, fm_st i = true → a' 1 i = a 1 i) ∧ b' 2 = b 2
theorem mw_Gok : ∀ k ∈ mw_G, fm_okg k = false := by decide
theorem fm_PK_O {g : Nat → Int32} {tp bt : Int64} {a : Nat → Nat → Int32} {b : Nat → Nat → Int64} {R : Option Value × fx_M} (h : fm_PO g tp bt a b R) : fm_PK g a b R := by
  obtain ⟨v, g', tp', bt', a', b', hE, hG, hb, rfl⟩ := h
  exact ⟨v, g', tp', bt', a', b', rfl, fun k hk => hG.1 k (mw_Gok k hk), hE.2.1 6 rfl, hE.2.2, hb 2 (by decide) (by decide)⟩
theorem fm_PK_Z {g : Nat → Int32} {tp bt : Int64} {a : Nat → Nat → Int32} {b : Nat → Nat → Int64} {R : Option Value × fx_M} (h : fm_PZ g tp bt a b R) : fm_PK g a b R := by
  obtain ⟨v, g', tp', bt', a', b', -, hE, hG, hb, rfl⟩ := h
  exact ⟨v, g', tp', bt', a', b', rfl, fun k hk => hG.1 k (mw_Gok k hk), hE.2.1 6 rfl, hE.2.2, hb 2 (by decide) (by decide)⟩
theorem fm_PK_T {g : Nat → Int32} {tp bt : Int64} {a : Nat → Nat → Int32} {b : Nat → Nat → Int64} {R : Option Value × fx_M} (h : fm_PT g tp bt a b R) : fm_PK g a b R := by
  obtain ⟨v, g', a', hS, h15, hG, rfl⟩ := h
  exact ⟨v, g', tp, bt, a', b, rfl, fun k hk => hG.1 k (mw_Gok k hk), hS 6 (by decide), fun i _ => by rw [hS 1 (by decide)], rfl⟩
theorem mx_keep (hst : ∀ (Ad : Nat → Prop) (U : State) (H : Heap), xt Ad U H → ∃ pl v tx, sk_X pl v Ad U H ∧ vk_R "GooseIceModel" 189 tx pl U) {k f n : Nat}
    (hex : ∀ (g : Nat → Int32) (tp bt : Int64) (a : Nat → Nat → Int32) (b : Nat → Nat → Int64) (xs : List Int32), xs.length = n → fm_I g a → ∃ (v : Option Value) (mem' : fx_M), fm_PP gn_M0 g a b (v, mem') ∧ fm_PK g a b (v, mem') ∧ fr_T k f (.ref 0 :: xs.map Value.int) (fm g tp bt a b) v mem') : lw_sem l D xt gn_TY (gn_X lw_twM) ads lw_twM (k + 4) f (List.replicate n 0) (List.replicate n gn_i) (lw_unQ 0 mw_W) := by
  refine lw_sem_imp (mx_sem (k := k) (f := f) (n := n) hst gn_M0_ms (S := fun _ g a b g' a' b' v => lr_ty 0 v ∧ (∀ k ∈ mw_G, g' k = g k) ∧ a' 6 = a 6 ∧ (∀ i, fm_st i = true → a' 1 i = a 1 i) ∧ b' 2 = b 2) (fun g tp bt a b xs hx hI => ?_)) ?_
  · obtain ⟨v, mem', h1, ⟨v2, g2, tp2, bt2, a2, b2, e2, q1, q3, q4, q5⟩, h3⟩ := hex g tp bt a b xs hx hI
    obtain ⟨v1, g1, tp1, bt1, a1, b1, e1, p1, p2⟩ := h1
    cases e1
    have em : fm g1 tp1 bt1 a1 b1 = fm g2 tp2 bt2 a2 b2 := congrArg Prod.snd e2
    have ea : ∀ t n ty, ((fm g1 tp1 bt1 a1 b1)[t]? = some (.inr (ty, n, .inl (a1 t)))) → ((fm g2 tp2 bt2 a2 b2)[t]? = some (.inr (ty, n, .inl (a2 t)))) → a1 t = a2 t := fun t n ty k1 k2 => by
      rw [em, k2] at k1
      injection k1 with k1
      injection k1 with k1
      injection k1 with _ k1
      injection k1 with _ k1
      injection k1 with k1
      exact k1.symm
    have eb2 : b1 2 = b2 2 := by
      have k1 : (fm g1 tp1 bt1 a1 b1)[2]? = some (.inr (.long, 108, .inr (.inl (b1 2)))) := rfl
      have k2 : (fm g2 tp2 bt2 a2 b2)[2]? = some (.inr (.long, 108, .inr (.inl (b2 2)))) := rfl
      rw [em, k2] at k1
      injection k1 with k1
      injection k1 with k1
      injection k1 with _ k1
      injection k1 with _ k1
      injection k1 with k1
      injection k1 with k1
      exact k1.symm
    have e0 : ∀ k ∈ mw_G, g1 k = g2 k := fun k hk => by
      simp only [mw_G, List.mem_cons, List.not_mem_nil, or_false] at hk
      rcases hk with rfl | rfl | rfl | rfl
      · exact Value.int.inj (Option.some.inj (fm_o_inj 10 em))
      · exact Value.int.inj (Option.some.inj (fm_o_inj 42 em))
      · exact Value.int.inj (Option.some.inj (fm_o_inj 16 em))
      · exact Value.int.inj (Option.some.inj (fm_o_inj 17 em))
    have ea6 : a1 6 = a2 6 := ea 6 900 .byte rfl rfl
    have ea1 : a1 1 = a2 1 := ea 1 5894 .int rfl rfl
    exact ⟨v1, g1, tp1, bt1, a1, b1, h3, p1, p2, ⟨_, rfl⟩, fun k hk => (e0 k hk).trans (q1 k hk), ea6.trans q3, fun i hi => (congrFun ea1 i).trans (q4 i hi), eb2.trans q5⟩
  · rintro av ws ws' v - ⟨-, g, a, b, g', a', b', h1, h2, -, hv, q1, q3, q4, q5⟩
    exact ⟨hv, mw_unW h1 (mw_eqV h2 q1 q3 (fun i hi => q4 i (mw_lt i hi).2) (fun i _ => congrFun q5 i))⟩
/-- step -/
theorem kp_step (hst : ∀ (Ad : Nat → Prop) (U : State) (H : Heap), xt Ad U H → ∃ pl v tx, sk_X pl v Ad U H ∧ vk_R "GooseIceModel" 189 tx pl U) : lw_sem l D xt gn_TY (gn_X lw_twM) ads lw_twM 12 293 (List.replicate 1 0) (List.replicate 1 gn_i) (lw_unQ 0 mw_W) := by
  refine mx_keep (k := 8) hst (fun g tp bt a b xs hx hI => ?_)
  obtain ⟨x0, xs0, rfl, hx0⟩ := fm_xsS hx
  obtain rfl := List.length_eq_zero_iff.mp hx0
  obtain ⟨v, mem', hP, hf⟩ := fr_step (g := g) (tp := tp) (bt := bt) (a := a) (b := b) (n := x0) hI.2.1 (fm_I_gb hI)
  exact ⟨v, mem', fm_I_PO hI hP, fm_PK_O hP, hf⟩
/-- ready -/
theorem kp_ready (hst : ∀ (Ad : Nat → Prop) (U : State) (H : Heap), xt Ad U H → ∃ pl v tx, sk_X pl v Ad U H ∧ vk_R "GooseIceModel" 189 tx pl U) : lw_sem l D xt gn_TY (gn_X lw_twM) ads lw_twM 13 328 (List.replicate 2 0) (List.replicate 2 gn_i) (lw_unQ 0 mw_W) := by
  refine mx_keep (k := 9) hst (fun g tp bt a b xs hx hI => ?_)
  obtain ⟨x0, xs0, rfl, hx0⟩ := fm_xsS hx
  obtain ⟨x1, xs1, rfl, hx1⟩ := fm_xsS hx0
  obtain rfl := List.length_eq_zero_iff.mp hx1
  obtain ⟨v, mem', hP, hf⟩ := fr_ready (g := g) (tp := tp) (bt := bt) (a := a) (b := b) (c := x0) (m := x1) hI.2.1 (fm_I_gb hI)
  exact ⟨v, mem', fm_I_PO hI hP, fm_PK_O hP, hf⟩
/-- holds -/
theorem kp_holds (hst : ∀ (Ad : Nat → Prop) (U : State) (H : Heap), xt Ad U H → ∃ pl v tx, sk_X pl v Ad U H ∧ vk_R "GooseIceModel" 189 tx pl U) : lw_sem l D xt gn_TY (gn_X lw_twM) ads lw_twM 13 336 (List.replicate 0 0) (List.replicate 0 gn_i) (lw_unQ 0 mw_W) := by
  refine mx_keep (k := 9) hst (fun g tp bt a b xs hx hI => ?_)
  obtain rfl := List.length_eq_zero_iff.mp hx
  obtain ⟨v, mem', hP, hf⟩ := fr_holds (g := g) (tp := tp) (bt := bt) (a := a) (b := b)  hI.2.1 (fm_I_gb hI)
  exact ⟨v, mem', fm_I_PO hI hP, fm_PK_O hP, hf⟩
/-- wayAt -/
theorem kp_wayAt (hst : ∀ (Ad : Nat → Prop) (U : State) (H : Heap), xt Ad U H → ∃ pl v tx, sk_X pl v Ad U H ∧ vk_R "GooseIceModel" 189 tx pl U) : lw_sem l D xt gn_TY (gn_X lw_twM) ads lw_twM 12 311 (List.replicate 3 0) (List.replicate 3 gn_i) (lw_unQ 0 mw_W) := by
  refine mx_keep (k := 8) hst (fun g tp bt a b xs hx hI => ?_)
  obtain ⟨x0, xs0, rfl, hx0⟩ := fm_xsS hx
  obtain ⟨x1, xs1, rfl, hx1⟩ := fm_xsS hx0
  obtain ⟨x2, xs2, rfl, hx2⟩ := fm_xsS hx1
  obtain rfl := List.length_eq_zero_iff.mp hx2
  obtain ⟨v, mem', hP, hf⟩ := fr_wayAtP (g := g) (tp := tp) (bt := bt) (a := a) (b := b) (w := x0) (c := x1) (k := x2) hI.2.1 (fm_I_gb hI)
  exact ⟨v, mem', fm_I_PO hI hP, fm_PK_O hP, hf⟩
/-- surestAt -/
theorem kp_surestAt (hst : ∀ (Ad : Nat → Prop) (U : State) (H : Heap), xt Ad U H → ∃ pl v tx, sk_X pl v Ad U H ∧ vk_R "GooseIceModel" 189 tx pl U) : lw_sem l D xt gn_TY (gn_X lw_twM) ads lw_twM 13 317 (List.replicate 3 0) (List.replicate 3 gn_i) (lw_unQ 0 mw_W) := by
  refine mx_keep (k := 9) hst (fun g tp bt a b xs hx hI => ?_)
  obtain ⟨x0, xs0, rfl, hx0⟩ := fm_xsS hx
  obtain ⟨x1, xs1, rfl, hx1⟩ := fm_xsS hx0
  obtain ⟨x2, xs2, rfl, hx2⟩ := fm_xsS hx1
  obtain rfl := List.length_eq_zero_iff.mp hx2
  obtain ⟨v, mem', hP, hf⟩ := fr_surestAtP (g := g) (tp := tp) (bt := bt) (a := a) (b := b) (w := x0) (c := x1) (k := x2) hI.2.1 (fm_I_gb hI)
  exact ⟨v, mem', fm_I_PO hI hP, fm_PK_O hP, hf⟩
/-- send -/
theorem kp_send (hst : ∀ (Ad : Nat → Prop) (U : State) (H : Heap), xt Ad U H → ∃ pl v tx, sk_X pl v Ad U H ∧ vk_R "GooseIceModel" 189 tx pl U) : lw_sem l D xt gn_TY (gn_X lw_twM) ads lw_twM 13 289 (List.replicate 3 0) (List.replicate 3 gn_i) (lw_unQ 0 mw_W) := by
  refine mx_keep (k := 9) hst (fun g tp bt a b xs hx hI => ?_)
  obtain ⟨x0, xs0, rfl, hx0⟩ := fm_xsS hx
  obtain ⟨x1, xs1, rfl, hx1⟩ := fm_xsS hx0
  obtain ⟨x2, xs2, rfl, hx2⟩ := fm_xsS hx1
  obtain rfl := List.length_eq_zero_iff.mp hx2
  obtain ⟨v, mem', hP, hf⟩ := fr_send (g := g) (tp := tp) (bt := bt) (a := a) (b := b) (w := x0) (t0 := x1) (n0 := x2) hI.2.1 (fm_I_gb hI)
  exact ⟨v, mem', fm_I_PO hI hP, fm_PK_O hP, hf⟩
/-- sendTo -/
theorem kp_sendTo (hst : ∀ (Ad : Nat → Prop) (U : State) (H : Heap), xt Ad U H → ∃ pl v tx, sk_X pl v Ad U H ∧ vk_R "GooseIceModel" 189 tx pl U) : lw_sem l D xt gn_TY (gn_X lw_twM) ads lw_twM 14 291 (List.replicate 2 0) (List.replicate 2 gn_i) (lw_unQ 0 mw_W) := by
  refine mx_keep (k := 10) hst (fun g tp bt a b xs hx hI => ?_)
  obtain ⟨x0, xs0, rfl, hx0⟩ := fm_xsS hx
  obtain ⟨x1, xs1, rfl, hx1⟩ := fm_xsS hx0
  obtain rfl := List.length_eq_zero_iff.mp hx1
  obtain ⟨v, mem', hP, hf⟩ := fr_sendTo (g := g) (tp := tp) (bt := bt) (a := a) (b := b) (w := x0) (c := x1) hI.2.1 (fm_I_gb hI)
  exact ⟨v, mem', fm_I_PO hI hP, fm_PK_O hP, hf⟩
/-- far -/
theorem kp_far (hst : ∀ (Ad : Nat → Prop) (U : State) (H : Heap), xt Ad U H → ∃ pl v tx, sk_X pl v Ad U H ∧ vk_R "GooseIceModel" 189 tx pl U) : lw_sem l D xt gn_TY (gn_X lw_twM) ads lw_twM 13 310 (List.replicate 2 0) (List.replicate 2 gn_i) (lw_unQ 0 mw_W) := by
  refine mx_keep (k := 9) hst (fun g tp bt a b xs hx hI => ?_)
  obtain ⟨x0, xs0, rfl, hx0⟩ := fm_xsS hx
  obtain ⟨x1, xs1, rfl, hx1⟩ := fm_xsS hx0
  obtain rfl := List.length_eq_zero_iff.mp hx1
  obtain ⟨v, mem', hP, hf⟩ := fr_far (g := g) (tp := tp) (bt := bt) (a := a) (b := b) (w := x0) (c := x1) hI.2.1 (fm_I_gb hI)
  exact ⟨v, mem', fm_I_PO hI hP, fm_PK_O hP, hf⟩
/-- surest -/
theorem kp_surest (hst : ∀ (Ad : Nat → Prop) (U : State) (H : Heap), xt Ad U H → ∃ pl v tx, sk_X pl v Ad U H ∧ vk_R "GooseIceModel" 189 tx pl U) : lw_sem l D xt gn_TY (gn_X lw_twM) ads lw_twM 14 315 (List.replicate 2 0) (List.replicate 2 gn_i) (lw_unQ 0 mw_W) := by
  refine mx_keep (k := 10) hst (fun g tp bt a b xs hx hI => ?_)
  obtain ⟨x0, xs0, rfl, hx0⟩ := fm_xsS hx
  obtain ⟨x1, xs1, rfl, hx1⟩ := fm_xsS hx0
  obtain rfl := List.length_eq_zero_iff.mp hx1
  obtain ⟨v, mem', hP, hf⟩ := fr_surest (g := g) (tp := tp) (bt := bt) (a := a) (b := b) (w := x0) (c := x1) hI.2.1 (fm_I_gb hI)
  exact ⟨v, mem', fm_I_PO hI hP, fm_PK_O hP, hf⟩
/-- surestFar -/
theorem kp_surestFar (hst : ∀ (Ad : Nat → Prop) (U : State) (H : Heap), xt Ad U H → ∃ pl v tx, sk_X pl v Ad U H ∧ vk_R "GooseIceModel" 189 tx pl U) : lw_sem l D xt gn_TY (gn_X lw_twM) ads lw_twM 14 316 (List.replicate 2 0) (List.replicate 2 gn_i) (lw_unQ 0 mw_W) := by
  refine mx_keep (k := 10) hst (fun g tp bt a b xs hx hI => ?_)
  obtain ⟨x0, xs0, rfl, hx0⟩ := fm_xsS hx
  obtain ⟨x1, xs1, rfl, hx1⟩ := fm_xsS hx0
  obtain rfl := List.length_eq_zero_iff.mp hx1
  obtain ⟨v, mem', hP, hf⟩ := fr_surestFar (g := g) (tp := tp) (bt := bt) (a := a) (b := b) (w := x0) (c := x1) hI.2.1 (fm_I_gb hI)
  exact ⟨v, mem', fm_I_PO hI hP, fm_PK_O hP, hf⟩
/-- reach -/
theorem kp_reach (hst : ∀ (Ad : Nat → Prop) (U : State) (H : Heap), xt Ad U H → ∃ pl v tx, sk_X pl v Ad U H ∧ vk_R "GooseIceModel" 189 tx pl U) : lw_sem l D xt gn_TY (gn_X lw_twM) ads lw_twM 13 318 (List.replicate 1 0) (List.replicate 1 gn_i) (lw_unQ 0 mw_W) := by
  refine mx_keep (k := 9) hst (fun g tp bt a b xs hx hI => ?_)
  obtain ⟨x0, xs0, rfl, hx0⟩ := fm_xsS hx
  obtain rfl := List.length_eq_zero_iff.mp hx0
  obtain ⟨v, mem', hP, hf⟩ := fr_reach (g := g) (tp := tp) (bt := bt) (a := a) (b := b) (w := x0) hI.2.1 (fm_I_gb hI)
  exact ⟨v, mem', fm_I_PO hI hP, fm_PK_O hP, hf⟩
/-- cut -/
theorem kp_cut (hst : ∀ (Ad : Nat → Prop) (U : State) (H : Heap), xt Ad U H → ∃ pl v tx, sk_X pl v Ad U H ∧ vk_R "GooseIceModel" 189 tx pl U) : lw_sem l D xt gn_TY (gn_X lw_twM) ads lw_twM 14 320 (List.replicate 2 0) (List.replicate 2 gn_i) (lw_unQ 0 mw_W) := by
  refine mx_keep (k := 10) hst (fun g tp bt a b xs hx hI => ?_)
  obtain ⟨x0, xs0, rfl, hx0⟩ := fm_xsS hx
  obtain ⟨x1, xs1, rfl, hx1⟩ := fm_xsS hx0
  obtain rfl := List.length_eq_zero_iff.mp hx1
  obtain ⟨v, mem', hP, hf⟩ := fr_cut (g := g) (tp := tp) (bt := bt) (a := a) (b := b) (w := x0) (c := x1) hI.2.1 (fm_I_gb hI)
  exact ⟨v, mem', fm_I_PO hI hP, fm_PK_O hP, hf⟩
/-- cutSet -/
theorem kp_cutSet (hst : ∀ (Ad : Nat → Prop) (U : State) (H : Heap), xt Ad U H → ∃ pl v tx, sk_X pl v Ad U H ∧ vk_R "GooseIceModel" 189 tx pl U) : lw_sem l D xt gn_TY (gn_X lw_twM) ads lw_twM 14 321 (List.replicate 2 0) (List.replicate 2 gn_i) (lw_unQ 0 mw_W) := by
  refine mx_keep (k := 10) hst (fun g tp bt a b xs hx hI => ?_)
  obtain ⟨x0, xs0, rfl, hx0⟩ := fm_xsS hx
  obtain ⟨x1, xs1, rfl, hx1⟩ := fm_xsS hx0
  obtain rfl := List.length_eq_zero_iff.mp hx1
  obtain ⟨v, mem', hP, hf⟩ := fr_cutSet (g := g) (tp := tp) (bt := bt) (a := a) (b := b) (w := x0) (c := x1) hI.2.1 (fm_I_gb hI)
  exact ⟨v, mem', fm_I_PO hI hP, fm_PK_O hP, hf⟩
/-- live -/
theorem kp_live (hst : ∀ (Ad : Nat → Prop) (U : State) (H : Heap), xt Ad U H → ∃ pl v tx, sk_X pl v Ad U H ∧ vk_R "GooseIceModel" 189 tx pl U) : lw_sem l D xt gn_TY (gn_X lw_twM) ads lw_twM 17 366 (List.replicate 1 0) (List.replicate 1 gn_i) (lw_unQ 0 mw_W) := by
  refine mx_keep (k := 13) hst (fun g tp bt a b xs hx hI => ?_)
  obtain ⟨x0, xs0, rfl, hx0⟩ := fm_xsS hx
  obtain rfl := List.length_eq_zero_iff.mp hx0
  obtain ⟨v, mem', hP, hf⟩ := fr_live (g := g) (tp := tp) (bt := bt) (a := a) (b := b) (sd := x0) hI.2.1 (fm_I_gb hI)
  exact ⟨v, mem', fm_I_PO hI hP, fm_PK_O hP, hf⟩
/-- mean -/
theorem kp_mean (hst : ∀ (Ad : Nat → Prop) (U : State) (H : Heap), xt Ad U H → ∃ pl v tx, sk_X pl v Ad U H ∧ vk_R "GooseIceModel" 189 tx pl U) : lw_sem l D xt gn_TY (gn_X lw_twM) ads lw_twM 18 368 (List.replicate 2 0) (List.replicate 2 gn_i) (lw_unQ 0 mw_W) := by
  refine mx_keep (k := 14) hst (fun g tp bt a b xs hx hI => ?_)
  obtain ⟨x0, xs0, rfl, hx0⟩ := fm_xsS hx
  obtain ⟨x1, xs1, rfl, hx1⟩ := fm_xsS hx0
  obtain rfl := List.length_eq_zero_iff.mp hx1
  obtain ⟨v, mem', hP, hf⟩ := fr_mean (g := g) (tp := tp) (bt := bt) (a := a) (b := b) (sd := x0) (my := x1) hI.2.1 (fm_I_gb hI)
  exact ⟨v, mem', fm_I_PZ hI hP, fm_PK_Z hP, hf⟩
/-- odds -/
theorem kp_odds (hst : ∀ (Ad : Nat → Prop) (U : State) (H : Heap), xt Ad U H → ∃ pl v tx, sk_X pl v Ad U H ∧ vk_R "GooseIceModel" 189 tx pl U) : lw_sem l D xt gn_TY (gn_X lw_twM) ads lw_twM 13 355 (List.replicate 5 0) (List.replicate 5 gn_i) (lw_unQ 0 mw_W) := by
  refine mx_keep (k := 9) hst (fun g tp bt a b xs hx hI => ?_)
  obtain ⟨x0, xs0, rfl, hx0⟩ := fm_xsS hx
  obtain ⟨x1, xs1, rfl, hx1⟩ := fm_xsS hx0
  obtain ⟨x2, xs2, rfl, hx2⟩ := fm_xsS hx1
  obtain ⟨x3, xs3, rfl, hx3⟩ := fm_xsS hx2
  obtain ⟨x4, xs4, rfl, hx4⟩ := fm_xsS hx3
  obtain rfl := List.length_eq_zero_iff.mp hx4
  obtain ⟨v, mem', hP, hf⟩ := fr_odds (g := g) (tp := tp) (bt := bt) (a := a) (b := b) (c := x0) (m := x1) (dd := x2) (f := x3) (t := x4) hI.2.1 (fm_I_gb hI)
  exact ⟨v, mem', fm_I_PZ hI hP, fm_PK_Z hP, hf⟩
/-- meanIn -/
theorem kp_meanIn (hst : ∀ (Ad : Nat → Prop) (U : State) (H : Heap), xt Ad U H → ∃ pl v tx, sk_X pl v Ad U H ∧ vk_R "GooseIceModel" 189 tx pl U) : lw_sem l D xt gn_TY (gn_X lw_twM) ads lw_twM 13 357 (List.replicate 4 0) (List.replicate 4 gn_i) (lw_unQ 0 mw_W) := by
  refine mx_keep (k := 9) hst (fun g tp bt a b xs hx hI => ?_)
  obtain ⟨x0, xs0, rfl, hx0⟩ := fm_xsS hx
  obtain ⟨x1, xs1, rfl, hx1⟩ := fm_xsS hx0
  obtain ⟨x2, xs2, rfl, hx2⟩ := fm_xsS hx1
  obtain ⟨x3, xs3, rfl, hx3⟩ := fm_xsS hx2
  obtain rfl := List.length_eq_zero_iff.mp hx3
  obtain ⟨v, mem', hP, hf⟩ := fr_meanIn (g := g) (tp := tp) (bt := bt) (a := a) (b := b) (c := x0) (dd := x1) (f := x2) (t := x3) hI.2.1 (fm_I_gb hI)
  exact ⟨v, mem', fm_I_PZ hI hP, fm_PK_Z hP, hf⟩
/-- bestDay -/
theorem kp_bestDay (hst : ∀ (Ad : Nat → Prop) (U : State) (H : Heap), xt Ad U H → ∃ pl v tx, sk_X pl v Ad U H ∧ vk_R "GooseIceModel" 189 tx pl U) : lw_sem l D xt gn_TY (gn_X lw_twM) ads lw_twM 13 356 (List.replicate 5 0) (List.replicate 5 gn_i) (lw_unQ 0 mw_W) := by
  refine mx_keep (k := 9) hst (fun g tp bt a b xs hx hI => ?_)
  obtain ⟨x0, xs0, rfl, hx0⟩ := fm_xsS hx
  obtain ⟨x1, xs1, rfl, hx1⟩ := fm_xsS hx0
  obtain ⟨x2, xs2, rfl, hx2⟩ := fm_xsS hx1
  obtain ⟨x3, xs3, rfl, hx3⟩ := fm_xsS hx2
  obtain ⟨x4, xs4, rfl, hx4⟩ := fm_xsS hx3
  obtain rfl := List.length_eq_zero_iff.mp hx4
  obtain ⟨v, mem', hP, hf⟩ := fr_bestDay (g := g) (tp := tp) (bt := bt) (a := a) (b := b) (c := x0) (m := x1) (dd := x2) (f := x3) (t := x4) hI.2.1 (fm_I_gb hI)
  exact ⟨v, mem', fm_I_PO hI hP, fm_PK_O hP, hf⟩
/-- suspects -/
theorem kp_suspects (hst : ∀ (Ad : Nat → Prop) (U : State) (H : Heap), xt Ad U H → ∃ pl v tx, sk_X pl v Ad U H ∧ vk_R "GooseIceModel" 189 tx pl U) : lw_sem l D xt gn_TY (gn_X lw_twM) ads lw_twM 14 350 (List.replicate 1 0) (List.replicate 1 gn_i) (lw_unQ 0 mw_W) := by
  refine mx_keep (k := 10) hst (fun g tp bt a b xs hx hI => ?_)
  obtain ⟨x0, xs0, rfl, hx0⟩ := fm_xsS hx
  obtain rfl := List.length_eq_zero_iff.mp hx0
  obtain ⟨v, mem', hP, hf⟩ := fr_suspects (g := g) (tp := tp) (bt := bt) (a := a) (b := b) (st := x0) hI.2.1 (fm_I_gb hI)
  exact ⟨v, mem', fm_I_PO hI hP, fm_PK_O hP, hf⟩
/-- queue -/
theorem kp_queue (hst : ∀ (Ad : Nat → Prop) (U : State) (H : Heap), xt Ad U H → ∃ pl v tx, sk_X pl v Ad U H ∧ vk_R "GooseIceModel" 189 tx pl U) : lw_sem l D xt gn_TY (gn_X lw_twM) ads lw_twM 14 334 (List.replicate 3 0) (List.replicate 3 gn_i) (lw_unQ 0 mw_W) := by
  refine mx_keep (k := 10) hst (fun g tp bt a b xs hx hI => ?_)
  obtain ⟨x0, xs0, rfl, hx0⟩ := fm_xsS hx
  obtain ⟨x1, xs1, rfl, hx1⟩ := fm_xsS hx0
  obtain ⟨x2, xs2, rfl, hx2⟩ := fm_xsS hx1
  obtain rfl := List.length_eq_zero_iff.mp hx2
  obtain ⟨v, mem', hP, hf⟩ := fr_queue (g := g) (tp := tp) (bt := bt) (a := a) (b := b) (set := x0) (tray := x1) (nn := x2) hI.2.1 (fm_I_gb hI)
  exact ⟨v, mem', fm_I_PO hI hP, fm_PK_O hP, hf⟩
/-- tryFirst -/
theorem kp_tryFirst (hst : ∀ (Ad : Nat → Prop) (U : State) (H : Heap), xt Ad U H → ∃ pl v tx, sk_X pl v Ad U H ∧ vk_R "GooseIceModel" 189 tx pl U) : lw_sem l D xt gn_TY (gn_X lw_twM) ads lw_twM 7 348 (List.replicate 2 0) (List.replicate 2 gn_i) (lw_unQ 0 mw_W) := by
  refine mx_keep (k := 3) hst (fun g tp bt a b xs hx hI => ?_)
  obtain ⟨x0, xs0, rfl, hx0⟩ := fm_xsS hx
  obtain ⟨x1, xs1, rfl, hx1⟩ := fm_xsS hx0
  obtain rfl := List.length_eq_zero_iff.mp hx1
  obtain ⟨v, mem', hP, hf⟩ := fr_tryFirst (g := g) (tp := tp) (bt := bt) (a := a) (b := b) (n := x0) (b2 := x1) hI.2.1 (fm_I_gb hI) (fun i hi => hI.2.2 (15, 427, 0, 1000000) (by decide) i hi)
  exact ⟨v, mem', fm_I_PT hI hP, fm_PK_T hP, hf⟩
end MXW
