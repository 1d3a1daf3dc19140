section MH23_0
/-! ===== lakes and tape: their places in the class's world and the model's ===== -/
def cw_LO : List (Nat × Nat) := [(0, 13), (9, 2), (15, 8), (15, 9), (26, 7), (192, 8), (192, 9), (203, 7), (218, 8), (218, 9), (229, 7), (244, 8), (244, 9), (255, 7)]
def cw_LA : List (Nat × Nat) := [(10, 900), (17, 10), (18, 10), (28, 8), (194, 10), (195, 10), (205, 8), (220, 10), (221, 10), (231, 8), (246, 10), (247, 10), (257, 8)]
/-- what stands at those places of the class's world -/
def cw_V (ws : va_W) (g a : Nat → Nat → Int32) : Prop := (∀ z ∈ cw_LO, lw_at ws z = some (.int (g z.1 z.2))) ∧ ∀ z ∈ cw_LA, ∀ i, i < z.2 → lw_at ws (z.1, i) = some (.int (a z.1 i))
def cw_W : List (Nat × Nat) := cw_LO ++ cw_LA.flatMap (fun z => (List.range z.2).map (fun i => (z.1, i)))
theorem cw_keep {ws ws' : va_W} {g a : Nat → Nat → Int32} (h : cw_V ws g a) (hk : ∀ z ∈ cw_W, lw_at ws' z = lw_at ws z) : cw_V ws' g a := ⟨fun z hz => (hk z (List.mem_append_left _ hz)).trans (h.1 z hz), fun z hz i hi => (hk (z.1, i) (List.mem_append_right _ (List.mem_flatMap.mpr ⟨z, hz, List.mem_map.mpr ⟨i, List.mem_range.mpr hi, rfl⟩⟩))).trans (h.2 z hz i hi)⟩
/-- the references of the kept lakes stand, too -/
def h3_X (ws : va_W) : Prop := h2_X ws ∧ gx ws
def h3_W : List (Nat × Nat) := h2_W ++ gx_L.map (fun z => (z.1, z.2.1))
theorem lw_sem_h3 {l : Launch} {D : va_G} {xt : tk_XT} {ads : List Nat} {d f : Nat} {kinds : List Nat} {envs : List tk_I} {Q : List Value → va_W → va_W → Value → Prop} (h : lw_sem l D xt gc_TY (gc_X lw_twC) ads lw_twC d f kinds envs Q) (hQ : ∀ av ws ws' v, Q av ws ws' v → ∀ z ∈ h3_W, lw_at ws' z = lw_at ws z) : lw_sem l D xt gc_TY h3_X ads lw_twC d f kinds envs Q := by
  have h0 := lw_sem_h2 h (fun av ws ws' v hq z hz => hQ av ws ws' v hq z (List.mem_append_left _ hz))
  intro q hq
  obtain ⟨M, h1, h2, h3⟩ := h0 q hq
  refine ⟨M, h1, h2, fun ax ws av sz a1 a2 a3 a4 => rk_Met_case (fun aU U hP => ?_)⟩
  obtain ⟨p1, p2, p3, p4, p5, p6, p7, p8, p10⟩ := hP
  refine ⟨_, _, h3 ax ws av sz a1 a2 a3 a4, ⟨p1, p2, p3, p4, p5, p6, p7, p8, p10.1⟩, ?_⟩
  rintro oc t - ⟨⟨ws', v, b1, b2, b3, b4, b5, b6, b7⟩, hF⟩
  refine ⟨⟨ws', v, b1, b2, b3, b4, ⟨b5, fun z hz => ?_⟩, b6, b7⟩, hF⟩
  rw [hQ _ _ _ _ b6 (z.1, z.2.1) (List.mem_append_right _ (List.mem_map.mpr ⟨z, hz, rfl⟩)), p10.2 z hz]
  have e : ∀ (w : va_W) (k : Nat), (w[k]?).map (fun q => Value.ref q.1) = ((w.map Prod.fst)[k]?).map Value.ref := fun w k => by
    rw [List.getElem?_map, Option.map_map]
    rfl
  rw [e, e, b1, a3]
theorem cR_eq {g g' : Nat → Nat → Int32} {l l' : Nat → Nat → Int64} {a a' : Nat → Nat → Int32} {b b' : Nat → Nat → Int64} {R : (Nat → fx_E) × fx_M} (h : ∀ j, 67 ≤ j → g' j = g j ∧ a' j = a j ∧ b' j = b j) : cR g' l' a' b' R = cR g l a b R := by
  have e1 : g' = fun j => cond (Nat.ble 67 j) (g j) (g' j) := funext (fun j => by
    show g' j = cond (Nat.ble 67 j) (g j) (g' j)
    cases e : Nat.ble 67 j with
    | true => exact (h j (Nat.le_of_ble_eq_true e)).1
    | false => rfl)
  have e2 : a' = fun j => cond (Nat.ble 67 j) (a j) (a' j) := funext (fun j => by
    show a' j = cond (Nat.ble 67 j) (a j) (a' j)
    cases e : Nat.ble 67 j with
    | true => exact (h j (Nat.le_of_ble_eq_true e)).2.1
    | false => rfl)
  have e3 : b' = fun j => cond (Nat.ble 67 j) (b j) (b' j) := funext (fun j => by
    show b' j = cond (Nat.ble 67 j) (b j) (b' j)
    cases e : Nat.ble 67 j with
    | true => exact (h j (Nat.le_of_ble_eq_true e)).2.2
    | false => rfl)
  rw [e1, e2, e3]
  rfl
theorem i01 {x : Int32} (h : (0 : Int) ≤ x.toInt ∧ x.toInt ≤ 1) : x = 0 ∨ x = 1 := by
  rcases (by omega : x.toInt = 0 ∨ x.toInt = 1) with e | e
  · exact Or.inl (Int32.toInt_inj.mp e)
  · exact Or.inr (Int32.toInt_inj.mp e)
section CXW
variable {l : Launch} {D : va_G} {xt : tk_XT} {ads : List Nat}
/-- what the class's memory is known to be, as a call begins -/
def cx_in (g : Nat → Nat → Int32) (a : Nat → Nat → Int32) (b : Nat → Nat → Int64) : Prop := ((0 ≤ (g 9 2).toInt ∧ (g 9 2).toInt ≤ 900) ∧ (0 ≤ (g 0 13).toInt ∧ (g 0 13).toInt ≤ 3) ∧ (0 ≤ (g 15 8).toInt ∧ (g 15 8).toInt ≤ 10) ∧ (0 ≤ (g 26 7).toInt ∧ (g 26 7).toInt ≤ 8)) ∧ (∀ i, i < 900 → (-128 : Int) ≤ (a 10 i).toInt ∧ (a 10 i).toInt ≤ 127) ∧ ((∀ i, i < 10 → 0 ≤ (a 17 i).toInt ∧ (a 17 i).toInt ≤ 1023) ∧ ∀ o, o = 34 ∨ o = 211 ∨ o = 237 ∨ o = 263 → g o 7 = 0 ∨ g o 7 = 1) ∧ cr (b 11)
theorem hc_fB {U : State} {ws : va_W} (h5 : rk_A2 (fun b (q : Nat × va_E) => tk_cl gc_TY lc_ro ads lw_twC U b q.2) lw_twC ws) {j t i ci : Nat} {fs : List tk_F} {lo hi : Int} (ht : lw_twC[j]? = some t) (hk : gc_ty[t]? = some (.inl (ci, fs))) (hf : fs[i]? = some (0, lo, hi)) : lw_at ws (j, i) = some (.int (cg ws j i)) ∧ lo ≤ (cg ws j i).toInt ∧ (cg ws j i).toInt ≤ hi := by
  obtain ⟨q, hq, hc⟩ := h5.get ht
  unfold tk_cl at hc
  rw [show gc_TY.1[t]? = _ from hk] at hc
  obtain ⟨vs, e, hl, hvs⟩ := hc
  have hlt : i < vs.length := by rw [hl]; exact (List.getElem?_eq_some_iff.mp hf).1
  obtain ⟨x, hx, h1, h2⟩ : ∃ x : Int32, vs[i] = .int x ∧ lo ≤ x.toInt ∧ x.toInt ≤ hi := hvs i _ _ hf (List.getElem?_eq_getElem hlt)
  have e2 : cg ws j i = x := by
    unfold cg
    rw [hq, show q = (q.1, q.2) from rfl, e]
    dsimp only
    rw [List.getElem?_eq_getElem hlt, hx]
  refine ⟨?_, by rw [e2]; exact h1, by rw [e2]; exact h2⟩
  unfold lw_at
  dsimp only
  rw [hq]
  show tk_pos q.2 i = _
  rw [e, e2]
  show vs[i]? = _
  rw [List.getElem?_eq_getElem hlt, hx]
theorem hc_aB {U : State} {ws : va_W} (h5 : rk_A2 (fun b (q : Nat × va_E) => tk_cl gc_TY lc_ro ads lw_twC U b q.2) lw_twC ws) {j t n : Nat} {kd : FieldType} {fl : tk_F} (ht : lw_twC[j]? = some t) (hk : gc_ty[t]? = some (.inr (kd, n, fl))) (hkd : kd = .int ∨ kd = .byte) : ∀ i, i < n → lw_at ws (j, i) = some (.int (ca ws j i)) := by
  obtain ⟨q, hq, hc⟩ := h5.get ht
  unfold tk_cl at hc
  rw [show gc_TY.1[t]? = _ from hk] at hc
  obtain ⟨cA, -, -, h3⟩ := hc
  obtain ⟨f, e⟩ : ∃ f, q.2 = .inl (cA, n, .inl f) := by
    unfold tk_ar at h3
    rcases hkd with rfl | rfl
    · obtain ⟨f, e, -⟩ := h3; exact ⟨f, e⟩
    · obtain ⟨f, e, -⟩ := h3; exact ⟨f, e⟩
  have e2 : ca ws j = f := by
    unfold ca
    rw [hq, show q = (q.1, q.2) from rfl, e]
  intro i hi
  unfold lw_at
  dsimp only
  rw [hq]
  show tk_pos q.2 i = _
  rw [e, e2]
  show (if i < n then some (Value.int (f i)) else none) = _
  rw [if_pos hi]
theorem cw_in {U : State} {ws : va_W} (h5 : rk_A2 (fun b (q : Nat × va_E) => tk_cl gc_TY lc_ro ads lw_twC U b q.2) lw_twC ws) : cw_V ws (cg ws) (ca ws) := by
  refine ⟨fun z hz => ?_, fun z hz => ?_⟩
  · simp only [cw_LO, List.mem_cons, List.not_mem_nil, or_false] at hz
    rcases hz with rfl | rfl | rfl | rfl | rfl | rfl | rfl | rfl | rfl | rfl | rfl | rfl | rfl | rfl
    · exact (hc_fB h5 (show lw_twC[0]? = some 0 by decide +kernel) rfl rfl).1
    · exact (hc_fB h5 (show lw_twC[9]? = some 6 by decide +kernel) rfl rfl).1
    · exact (hc_fB h5 (show lw_twC[15]? = some 12 by decide +kernel) rfl rfl).1
    · exact (hc_fB h5 (show lw_twC[15]? = some 12 by decide +kernel) rfl rfl).1
    · exact (hc_fB h5 (show lw_twC[26]? = some 23 by decide +kernel) rfl rfl).1
    · exact (hc_fB h5 (show lw_twC[192]? = some 65 by decide +kernel) rfl rfl).1
    · exact (hc_fB h5 (show lw_twC[192]? = some 65 by decide +kernel) rfl rfl).1
    · exact (hc_fB h5 (show lw_twC[203]? = some 76 by decide +kernel) rfl rfl).1
    · exact (hc_fB h5 (show lw_twC[218]? = some 65 by decide +kernel) rfl rfl).1
    · exact (hc_fB h5 (show lw_twC[218]? = some 65 by decide +kernel) rfl rfl).1
    · exact (hc_fB h5 (show lw_twC[229]? = some 76 by decide +kernel) rfl rfl).1
    · exact (hc_fB h5 (show lw_twC[244]? = some 65 by decide +kernel) rfl rfl).1
    · exact (hc_fB h5 (show lw_twC[244]? = some 65 by decide +kernel) rfl rfl).1
    · exact (hc_fB h5 (show lw_twC[255]? = some 76 by decide +kernel) rfl rfl).1
  · simp only [cw_LA, List.mem_cons, List.not_mem_nil, or_false] at hz
    rcases hz with rfl | rfl | rfl | rfl | rfl | rfl | rfl | rfl | rfl | rfl | rfl | rfl | rfl
    · exact hc_aB h5 (show lw_twC[10]? = some 7 by decide +kernel) rfl (Or.inr rfl)
    · exact hc_aB h5 (show lw_twC[17]? = some 14 by decide +kernel) rfl (Or.inl rfl)
    · exact hc_aB h5 (show lw_twC[18]? = some 15 by decide +kernel) rfl (Or.inl rfl)
    · exact hc_aB h5 (show lw_twC[28]? = some 25 by decide +kernel) rfl (Or.inl rfl)
    · exact hc_aB h5 (show lw_twC[194]? = some 67 by decide +kernel) rfl (Or.inl rfl)
    · exact hc_aB h5 (show lw_twC[195]? = some 68 by decide +kernel) rfl (Or.inl rfl)
    · exact hc_aB h5 (show lw_twC[205]? = some 78 by decide +kernel) rfl (Or.inl rfl)
    · exact hc_aB h5 (show lw_twC[220]? = some 67 by decide +kernel) rfl (Or.inl rfl)
    · exact hc_aB h5 (show lw_twC[221]? = some 68 by decide +kernel) rfl (Or.inl rfl)
    · exact hc_aB h5 (show lw_twC[231]? = some 78 by decide +kernel) rfl (Or.inl rfl)
    · exact hc_aB h5 (show lw_twC[246]? = some 67 by decide +kernel) rfl (Or.inl rfl)
    · exact hc_aB h5 (show lw_twC[247]? = some 68 by decide +kernel) rfl (Or.inl rfl)
    · exact hc_aB h5 (show lw_twC[257]? = some 78 by decide +kernel) rfl (Or.inl rfl)
theorem cw_out {ws ws' : va_W} {g' : Nat → Nat → Int32} {l' : Nat → Nat → Int64} {a' : Nat → Nat → Int32} {b' : Nat → Nat → Int64} {R' : (Nat → fx_E) × fx_M} (h : hc_two D ads ws ws' (cx g' l' a' b' R')) : cw_V ws' g' a' := by
  refine ⟨fun z hz => ?_, fun z hz => ?_⟩
  · simp only [cw_LO, List.mem_cons, List.not_mem_nil, or_false] at hz
    rcases hz with rfl | rfl | rfl | rfl | rfl | rfl | rfl | rfl | rfl | rfl | rfl | rfl | rfl | rfl
    · exact hc_two_O h (show lw_twC[0]? = some 0 by decide +kernel) rfl rfl rfl rfl (show (cx g' l' a' b' R')[0]? = some (.inl (11, co0 (g' 0) (l' 0))) from rfl) rfl (Nat.zero_le 1)
    · exact hc_two_O h (show lw_twC[9]? = some 6 by decide +kernel) rfl rfl rfl rfl (show (cx g' l' a' b' R')[9]? = some (.inl (8, co9 (g' 9) (l' 9))) from rfl) rfl (Nat.zero_le 1)
    · exact hc_two_O h (show lw_twC[15]? = some 12 by decide +kernel) rfl rfl rfl rfl (show (cx g' l' a' b' R')[15]? = some (.inl (3, co15 (g' 15) (l' 15))) from rfl) rfl (Nat.zero_le 1)
    · exact hc_two_O h (show lw_twC[15]? = some 12 by decide +kernel) rfl rfl rfl rfl (show (cx g' l' a' b' R')[15]? = some (.inl (3, co15 (g' 15) (l' 15))) from rfl) rfl (Nat.zero_le 1)
    · exact hc_two_O h (show lw_twC[26]? = some 23 by decide +kernel) rfl rfl rfl rfl (show (cx g' l' a' b' R')[26]? = some (.inl (0, co26 (g' 26) (l' 26))) from rfl) rfl (Nat.zero_le 1)
    · exact hc_two_O h (show lw_twC[192]? = some 65 by decide +kernel) rfl rfl rfl rfl (show (cx g' l' a' b' R')[192]? = some (.inl (3, co192 (g' 192) (l' 192))) from rfl) rfl (Nat.zero_le 1)
    · exact hc_two_O h (show lw_twC[192]? = some 65 by decide +kernel) rfl rfl rfl rfl (show (cx g' l' a' b' R')[192]? = some (.inl (3, co192 (g' 192) (l' 192))) from rfl) rfl (Nat.zero_le 1)
    · exact hc_two_O h (show lw_twC[203]? = some 76 by decide +kernel) rfl rfl rfl rfl (show (cx g' l' a' b' R')[203]? = some (.inl (0, co203 (g' 203) (l' 203))) from rfl) rfl (Nat.zero_le 1)
    · exact hc_two_O h (show lw_twC[218]? = some 65 by decide +kernel) rfl rfl rfl rfl (show (cx g' l' a' b' R')[218]? = some (.inl (3, co218 (g' 218) (l' 218))) from rfl) rfl (Nat.zero_le 1)
    · exact hc_two_O h (show lw_twC[218]? = some 65 by decide +kernel) rfl rfl rfl rfl (show (cx g' l' a' b' R')[218]? = some (.inl (3, co218 (g' 218) (l' 218))) from rfl) rfl (Nat.zero_le 1)
    · exact hc_two_O h (show lw_twC[229]? = some 76 by decide +kernel) rfl rfl rfl rfl (show (cx g' l' a' b' R')[229]? = some (.inl (0, co229 (g' 229) (l' 229))) from rfl) rfl (Nat.zero_le 1)
    · exact hc_two_O h (show lw_twC[244]? = some 65 by decide +kernel) rfl rfl rfl rfl (show (cx g' l' a' b' R')[244]? = some (.inl (3, co244 (g' 244) (l' 244))) from rfl) rfl (Nat.zero_le 1)
    · exact hc_two_O h (show lw_twC[244]? = some 65 by decide +kernel) rfl rfl rfl rfl (show (cx g' l' a' b' R')[244]? = some (.inl (3, co244 (g' 244) (l' 244))) from rfl) rfl (Nat.zero_le 1)
    · exact hc_two_O h (show lw_twC[255]? = some 76 by decide +kernel) rfl rfl rfl rfl (show (cx g' l' a' b' R')[255]? = some (.inl (0, co255 (g' 255) (l' 255))) from rfl) rfl (Nat.zero_le 1)
  · simp only [cw_LA, List.mem_cons, List.not_mem_nil, or_false] at hz
    rcases hz with rfl | rfl | rfl | rfl | rfl | rfl | rfl | rfl | rfl | rfl | rfl | rfl | rfl
    · exact hc_two_I h (show lw_twC[10]? = some 7 by decide +kernel) rfl (Or.inr rfl) (show (cx g' l' a' b' R')[10]? = some (.inr (.byte, 900, .inl (a' 10))) from rfl)
    · exact hc_two_I h (show lw_twC[17]? = some 14 by decide +kernel) rfl (Or.inl rfl) (show (cx g' l' a' b' R')[17]? = some (.inr (.int, 10, .inl (a' 17))) from rfl)
    · exact hc_two_I h (show lw_twC[18]? = some 15 by decide +kernel) rfl (Or.inl rfl) (show (cx g' l' a' b' R')[18]? = some (.inr (.int, 10, .inl (a' 18))) from rfl)
    · exact hc_two_I h (show lw_twC[28]? = some 25 by decide +kernel) rfl (Or.inl rfl) (show (cx g' l' a' b' R')[28]? = some (.inr (.int, 8, .inl (a' 28))) from rfl)
    · exact hc_two_I h (show lw_twC[194]? = some 67 by decide +kernel) rfl (Or.inl rfl) (show (cx g' l' a' b' R')[194]? = some (.inr (.int, 10, .inl (a' 194))) from rfl)
    · exact hc_two_I h (show lw_twC[195]? = some 68 by decide +kernel) rfl (Or.inl rfl) (show (cx g' l' a' b' R')[195]? = some (.inr (.int, 10, .inl (a' 195))) from rfl)
    · exact hc_two_I h (show lw_twC[205]? = some 78 by decide +kernel) rfl (Or.inl rfl) (show (cx g' l' a' b' R')[205]? = some (.inr (.int, 8, .inl (a' 205))) from rfl)
    · exact hc_two_I h (show lw_twC[220]? = some 67 by decide +kernel) rfl (Or.inl rfl) (show (cx g' l' a' b' R')[220]? = some (.inr (.int, 10, .inl (a' 220))) from rfl)
    · exact hc_two_I h (show lw_twC[221]? = some 68 by decide +kernel) rfl (Or.inl rfl) (show (cx g' l' a' b' R')[221]? = some (.inr (.int, 10, .inl (a' 221))) from rfl)
    · exact hc_two_I h (show lw_twC[231]? = some 78 by decide +kernel) rfl (Or.inl rfl) (show (cx g' l' a' b' R')[231]? = some (.inr (.int, 8, .inl (a' 231))) from rfl)
    · exact hc_two_I h (show lw_twC[246]? = some 67 by decide +kernel) rfl (Or.inl rfl) (show (cx g' l' a' b' R')[246]? = some (.inr (.int, 10, .inl (a' 246))) from rfl)
    · exact hc_two_I h (show lw_twC[247]? = some 68 by decide +kernel) rfl (Or.inl rfl) (show (cx g' l' a' b' R')[247]? = some (.inr (.int, 10, .inl (a' 247))) from rfl)
    · exact hc_two_I h (show lw_twC[257]? = some 78 by decide +kernel) rfl (Or.inl rfl) (show (cx g' l' a' b' R')[257]? = some (.inr (.int, 8, .inl (a' 257))) from rfl)
/-- a call of the class, typed and exact -/
theorem cx_sem (hxt : tk_xtok xt) {k f : Nat} {kinds : List Nat} {envs : List tk_I} {Q0 : List Value → va_W → va_W → Value → Prop} {S : List Value → (Nat → Nat → Int32) → (Nat → Nat → Int32) → (Nat → Nat → Int32) → (Nat → Nat → Int32) → Value → Prop} (hd : k + 4 ≤ 20) (hK : lw_sem l D xt gc_TY h3_X ads lw_twC 20 f kinds envs Q0)
    (hex : ∀ (rest : List Value) (g : Nat → Nat → Int32) (l' : Nat → Nat → Int64) (a : Nat → Nat → Int32) (b : Nat → Nat → Int64) (R : (Nat → fx_E) × fx_M), rk_A2 lq_av (kinds.zip envs) rest → cx_in g a b → ∃ (v : Value) (g' : Nat → Nat → Int32) (l'' : Nat → Nat → Int64) (a' : Nat → Nat → Int32) (b' : Nat → Nat → Int64), fx_kd v ≤ 1 ∧ hr_T k f (.ref 0 :: rest) (cx g l' a b R) (some v) (cx g' l'' a' b' R) ∧ S rest g a g' a' v) : lw_sem l D xt gc_TY h3_X ads lw_twC 20 f kinds envs (fun av ws ws' v => Q0 av ws ws' v ∧ ∃ g a g' a', cw_V ws g a ∧ cw_V ws' g' a' ∧ S av g a g' a' v) := by
  refine lw_sem_imp (hc_sem2 (Q1 := fun rest ws mem' v => ∃ (g a g' : Nat → Nat → Int32) (l'' : Nat → Nat → Int64) (a' : Nat → Nat → Int32) (b' : Nat → Nat → Int64) (R : (Nat → fx_E) × fx_M), cw_V ws g a ∧ mem' = cx g' l'' a' b' R ∧ S rest g a g' a' v) hxt hd hK (fun U ax rest ws hty hrest h5 h4 hD hX => ?_)) ?_
  · have hcx := hc_cx h4 h5 hD hX.1.1.2 hX.2
    generalize (hc_q ads ws, (hc_mem ads lw_twC ws).drop 270) = R0 at hcx
    have hin : cx_in (cg ws) (ca ws) (cb ws) := by
      refine ⟨⟨(hc_fB h5 (show lw_twC[9]? = some 6 by decide +kernel) rfl rfl).2, (hc_fB h5 (show lw_twC[0]? = some 0 by decide +kernel) rfl rfl).2, (hc_fB h5 (show lw_twC[15]? = some 12 by decide +kernel) rfl rfl).2, (hc_fB h5 (show lw_twC[26]? = some 23 by decide +kernel) rfl rfl).2⟩, hc_bdB h5 (show lw_twC[10]? = some 7 by decide +kernel) rfl, ⟨hc_bdI h5 (show lw_twC[17]? = some 14 by decide +kernel) rfl, fun o ho => by
        rcases ho with rfl | rfl | rfl | rfl
        · exact i01 (hc_fB h5 (show lw_twC[34]? = some 31 by decide +kernel) rfl rfl).2
        · exact i01 (hc_fB h5 (show lw_twC[211]? = some 84 by decide +kernel) rfl rfl).2
        · exact i01 (hc_fB h5 (show lw_twC[237]? = some 84 by decide +kernel) rfl rfl).2
        · exact i01 (hc_fB h5 (show lw_twC[263]? = some 84 by decide +kernel) rfl rfl).2⟩, fun k w hw => ?_⟩
      have hk : k < 23 := (List.getElem?_eq_some_iff.mp hw).1
      have h1 := hX.1.2 k w hw
      obtain ⟨q11, k11⟩ : ∃ q, ws[11]? = some q := ⟨_, List.getElem?_eq_getElem (by rw [h5.len.symm, lw_lenC]; decide)⟩
      rw [hw_at0 (i := k) h4 h5 k11 (show (hc_mem ads lw_twC ws)[11]? = some (.inr (.long, 23, .inr (.inl (cb ws 11)))) by rw [hcx]; rfl)] at h1
      have h1 : (if k < 23 then some (Value.long (cb ws 11 k)) else none) = _ := h1
      rw [if_pos hk] at h1
      exact Value.long.inj (Option.some.inj h1)
    obtain ⟨v, g', l'', a', b', z1, z2, z3⟩ := hex rest (cg ws) (cl_ ws) (ca ws) (cb ws) R0 hrest hin
    exact ⟨v, cx g' l'' a' b' R0, z1, by rw [hcx]; exact z2, cg ws, ca ws, g', l'', a', b', R0, cw_in h5, rfl, z3⟩
  · rintro av ws ws' v - ⟨h0, mem', ⟨g, a, g', l'', a', b', R, h1, rfl, h3⟩, h8⟩
    exact ⟨h0, g, a, g', a', h1, cw_out h8, h3⟩
end CXW
/-! ===== the model ===== -/
def mw_I : List Nat := (List.range 4).flatMap (fun s => (842 * s) :: (842 * s + 1) :: ((List.range 10).map (fun i => 842 * s + 8 + 6 * i + 2) ++ (List.range 10).map (fun i => 842 * s + 8 + 6 * i + 3) ++ (List.range 8).map (fun i => 842 * s + 278 + 5 * i) ++ (List.range 10).map (fun i => 842 * s + 8 + 6 * i)))
/-- what stands at those places of the model's world -/
def mw_V (ws : va_W) (g : Nat → Int32) (a : Nat → Nat → Int32) : Prop := lw_at ws (0, 10) = some (.int (g 10)) ∧ lw_at ws (0, 42) = some (.int (g 42)) ∧ (∀ i, i < 900 → lw_at ws (6, i) = some (.int (a 6 i))) ∧ ∀ i ∈ mw_I, lw_at ws (1, i) = some (.int (a 1 i))
def mw_W : List (Nat × Nat) := (0, 10) :: (0, 42) :: ((List.range 900).map (fun i => (6, i)) ++ mw_I.map (fun i => (1, i)))
theorem mw_lt : ∀ i ∈ mw_I, i < 3368 ∧ fm_st i = true := by decide +kernel
theorem mw_keep {ws ws' : va_W} {g : Nat → Int32} {a : Nat → Nat → Int32} (h : mw_V ws g a) (hk : ∀ z ∈ mw_W, lw_at ws' z = lw_at ws z) : mw_V ws' g a := ⟨(hk _ List.mem_cons_self).trans h.1, (hk _ (List.mem_cons_of_mem _ List.mem_cons_self)).trans h.2.1, fun i hi => (hk (6, i) (List.mem_cons_of_mem _ (List.mem_cons_of_mem _ (List.mem_append_left _ (List.mem_map.mpr ⟨i, List.mem_range.mpr hi, rfl⟩))))).trans (h.2.2.1 i hi), fun i hi => (hk (1, i) (List.mem_cons_of_mem _ (List.mem_cons_of_mem _ (List.mem_append_right _ (List.mem_map.mpr ⟨i, hi, rfl⟩))))).trans (h.2.2.2 i hi)⟩
theorem mw_of {ws : va_W} {g : Nat → Int32} {tp bt : Int64} {a : Nat → Nat → Int32} {b : Nat → Nat → Int64} (h : fw_is ws g tp bt a b) : mw_V ws g a := ⟨h.1 10 _ rfl (Nat.zero_le 1), h.1 42 _ rfl (Nat.zero_le 1), fun i hi => h.2.1 6 900 _ (a 6) i rfl hi, fun i hi => h.2.1 1 5894 _ (a 1) i rfl (by have := (mw_lt i hi).1; omega)⟩
theorem mw_eqV {ws' : va_W} {g g' : Nat → Int32} {a a' : Nat → Nat → Int32} (h : mw_V ws' g' a') (h10 : g' 10 = g 10) (h42 : g' 42 = g 42) (h6 : a' 6 = a 6) (h1 : ∀ i ∈ mw_I, a' 1 i = a 1 i) : mw_V ws' g a := ⟨by rw [← h10]; exact h.1, by rw [← h42]; exact h.2.1, fun i hi => by rw [← h6]; exact h.2.2.1 i hi, fun i hi => by rw [← h1 i hi]; exact h.2.2.2 i hi⟩
theorem mw_unW {ws ws' : va_W} {g : Nat → Int32} {a : Nat → Nat → Int32} (h1 : mw_V ws g a) (h3 : mw_V ws' g a) : ∀ z ∈ mw_W, lw_at ws' z = lw_at ws z := fun z hz => by
  rcases List.mem_cons.mp hz with rfl | hz
  · exact h3.1.trans h1.1.symm
  rcases List.mem_cons.mp hz with rfl | hz
  · exact h3.2.1.trans h1.2.1.symm
  rcases List.mem_append.mp hz with hz | hz
  · obtain ⟨i, hi, rfl⟩ := List.mem_map.mp hz
    exact (h3.2.2.1 i (List.mem_range.mp hi)).trans (h1.2.2.1 i (List.mem_range.mp hi)).symm
  · obtain ⟨i, hi, rfl⟩ := List.mem_map.mp hz
    exact (h3.2.2.2 i hi).trans (h1.2.2.2 i hi).symm
section MXW
variable {l : Launch} {D : va_G} {xt : tk_XT} {ads : List Nat}
/-- a call of the model, exact -/
theorem mx_sem (hst : ∀ (Ad : Nat → Prop) (U : State) (H : Heap), xt Ad U H → ∃ pl v tx, sk_X pl v Ad U H ∧ vk_R "GooseIceModel" 189 tx pl U) {k f n : Nat} {mods : List (Nat × Nat)} (hM : fm_ms mods) {S : List Value → (Nat → Int32) → (Nat → Nat → Int32) → (Nat → Int32) → (Nat → Nat → Int32) → Value → Prop}
    (hex : ∀ (g : Nat → Int32) (tp bt : Int64) (a : Nat → Nat → Int32) (b : Nat → Nat → Int64) (xs : List Int32), xs.length = n → fm_I g a → ∃ (v : Int32) (g' : Nat → Int32) (tp' bt' : Int64) (a' : Nat → Nat → Int32) (b' : Nat → Nat → Int64), fr_T k f (.ref 0 :: xs.map Value.int) (fm g tp bt a b) (some (.int v)) (fm g' tp' bt' a' b') ∧ fm_I g' a' ∧ fm_ffr mods g a b g' a' b' ∧ S (xs.map Value.int) g a g' a' (.int v)) : lw_sem l D xt gn_TY (gn_X lw_twM) ads lw_twM (k + 4) f (List.replicate n 0) (List.replicate n gn_i) (fun av ws ws' v => lr_ty 0 v ∧ ∃ g a g' a', mw_V ws g a ∧ mw_V ws' g' a' ∧ fm_I g a ∧ S av g a g' a' v) := by
  refine lw_sem_imp (fm_sem (k := k) (f := f) (n := n) hst gn_fmTy hM (Q := fun xs g _ _ a _ g' _ _ a' _ v => S (xs.map Value.int) g a g' a' (.int v)) hex) ?_
  rintro av ws ws' v - ⟨xs, g, tp, bt, a, b, g', tp', bt', a', b', x, rfl, rfl, k1, k2, k3, -, k4⟩
  exact ⟨⟨_, rfl⟩, g, a, g', a', mw_of k1, mw_of k2, k3, k4⟩
/-- what a public call leaves as it is -/
def fm_PK (g : Nat → Int32) (a : Nat → Nat → Int32) (R : Option Value × fx_M) : Prop := ∃ (v : Int32) (g' : Nat → Int32) (tp' bt' : Int64) (a' : Nat → Nat → Int32) (b' : Nat → Nat → Int64), R = (some (.int v), fm g' tp' bt' a' b') ∧ g' 10 = g 10 ∧ g' 42 = g 42 ∧ a' 6 = a 6 ∧ ∀ i, fm_st i = true → a' 1 i = a 1 i
theorem fm_PK_O {g : Nat → Int32} {tp bt : Int64} {a : Nat → Nat → Int32} {b : Nat → Nat → Int64} {R : Option Value × fx_M} (h : fm_PO g tp bt a b R) : fm_PK g a R := by
  obtain ⟨v, g', tp', bt', a', b', hE, hG, hb, rfl⟩ := h
  exact ⟨v, g', tp', bt', a', b', rfl, hG.1 10 rfl, hG.1 42 rfl, hE.2.1 6 rfl, hE.2.2⟩
theorem fm_PK_Z {g : Nat → Int32} {tp bt : Int64} {a : Nat → Nat → Int32} {b : Nat → Nat → Int64} {R : Option Value × fx_M} (h : fm_PZ g tp bt a b R) : fm_PK g a R := by
  obtain ⟨v, g', tp', bt', a', b', -, hE, hG, hb, rfl⟩ := h
  exact ⟨v, g', tp', bt', a', b', rfl, hG.1 10 rfl, hG.1 42 rfl, hE.2.1 6 rfl, hE.2.2⟩
theorem fm_PK_T {g : Nat → Int32} {tp bt : Int64} {a : Nat → Nat → Int32} {b : Nat → Nat → Int64} {R : Option Value × fx_M} (h : fm_PT g tp bt a b R) : fm_PK g a R := by
  obtain ⟨v, g', a', hS, h15, hG, rfl⟩ := h
  exact ⟨v, g', tp, bt, a', b, rfl, hG.1 10 rfl, hG.1 42 rfl, hS 6 (by decide), fun i _ => by rw [hS 1 (by decide)]⟩
theorem mx_keep (hst : ∀ (Ad : Nat → Prop) (U : State) (H : Heap), xt Ad U H → ∃ pl v tx, sk_X pl v Ad U H ∧ vk_R "GooseIceModel" 189 tx pl U) {k f n : Nat}
    (hex : ∀ (g : Nat → Int32) (tp bt : Int64) (a : Nat → Nat → Int32) (b : Nat → Nat → Int64) (xs : List Int32), xs.length = n → fm_I g a → ∃ (v : Option Value) (mem' : fx_M), fm_PP gn_M0 g a b (v, mem') ∧ fm_PK g a (v, mem') ∧ fr_T k f (.ref 0 :: xs.map Value.int) (fm g tp bt a b) v mem') : lw_sem l D xt gn_TY (gn_X lw_twM) ads lw_twM (k + 4) f (List.replicate n 0) (List.replicate n gn_i) (lw_unQ 0 mw_W) := by
  refine lw_sem_imp (mx_sem (k := k) (f := f) (n := n) hst gn_M0_ms (S := fun _ g a g' a' v => lr_ty 0 v ∧ g' 10 = g 10 ∧ g' 42 = g 42 ∧ a' 6 = a 6 ∧ ∀ i, fm_st i = true → a' 1 i = a 1 i) (fun g tp bt a b xs hx hI => ?_)) ?_
  · obtain ⟨v, mem', h1, ⟨v2, g2, tp2, bt2, a2, b2, e2, q1, q2, q3, q4⟩, h3⟩ := hex g tp bt a b xs hx hI
    obtain ⟨v1, g1, tp1, bt1, a1, b1, e1, p1, p2⟩ := h1
    cases e1
    have em : fm g1 tp1 bt1 a1 b1 = fm g2 tp2 bt2 a2 b2 := congrArg Prod.snd e2
    have ea : ∀ t n ty, ((fm g1 tp1 bt1 a1 b1)[t]? = some (.inr (ty, n, .inl (a1 t)))) → ((fm g2 tp2 bt2 a2 b2)[t]? = some (.inr (ty, n, .inl (a2 t)))) → a1 t = a2 t := fun t n ty k1 k2 => by
      rw [em, k2] at k1
      injection k1 with k1
      injection k1 with k1
      injection k1 with _ k1
      injection k1 with _ k1
      injection k1 with k1
      exact k1.symm
    have e10 : g1 10 = g2 10 := Value.int.inj (Option.some.inj (fm_o_inj 10 em))
    have e42 : g1 42 = g2 42 := Value.int.inj (Option.some.inj (fm_o_inj 42 em))
    have ea6 : a1 6 = a2 6 := ea 6 900 .byte rfl rfl
    have ea1 : a1 1 = a2 1 := ea 1 5894 .int rfl rfl
    exact ⟨v1, g1, tp1, bt1, a1, b1, h3, p1, p2, ⟨_, rfl⟩, e10.trans q1, e42.trans q2, ea6.trans q3, fun i hi => (congrFun ea1 i).trans (q4 i hi)⟩
  · rintro av ws ws' v - ⟨-, g, a, g', a', h1, h2, -, hv, q1, q2, q3, q4⟩
    exact ⟨hv, mw_unW h1 (mw_eqV h2 q1 q2 q3 (fun i hi => q4 i (mw_lt i hi).2))⟩
/-- step -/
theorem kp_step (hst : ∀ (Ad : Nat → Prop) (U : State) (H : Heap), xt Ad U H → ∃ pl v tx, sk_X pl v Ad U H ∧ vk_R "GooseIceModel" 189 tx pl U) : lw_sem l D xt gn_TY (gn_X lw_twM) ads lw_twM 12 293 (List.replicate 1 0) (List.replicate 1 gn_i) (lw_unQ 0 mw_W) := by
  refine mx_keep (k := 8) hst (fun g tp bt a b xs hx hI => ?_)
  obtain ⟨x0, xs0, rfl, hx0⟩ := fm_xsS hx
  obtain rfl := List.length_eq_zero_iff.mp hx0
  obtain ⟨v, mem', hP, hf⟩ := fr_step (g := g) (tp := tp) (bt := bt) (a := a) (b := b) (n := x0) hI.2.1 (fm_I_gb hI)
  exact ⟨v, mem', fm_I_PO hI hP, fm_PK_O hP, hf⟩
/-- ready -/
theorem kp_ready (hst : ∀ (Ad : Nat → Prop) (U : State) (H : Heap), xt Ad U H → ∃ pl v tx, sk_X pl v Ad U H ∧ vk_R "GooseIceModel" 189 tx pl U) : lw_sem l D xt gn_TY (gn_X lw_twM) ads lw_twM 13 328 (List.replicate 2 0) (List.replicate 2 gn_i) (lw_unQ 0 mw_W) := by
  refine mx_keep (k := 9) hst (fun g tp bt a b xs hx hI => ?_)
  obtain ⟨x0, xs0, rfl, hx0⟩ := fm_xsS hx
  obtain ⟨x1, xs1, rfl, hx1⟩ := fm_xsS hx0
  obtain rfl := List.length_eq_zero_iff.mp hx1
  obtain ⟨v, mem', hP, hf⟩ := fr_ready (g := g) (tp := tp) (bt := bt) (a := a) (b := b) (c := x0) (m := x1) hI.2.1 (fm_I_gb hI)
  exact ⟨v, mem', fm_I_PO hI hP, fm_PK_O hP, hf⟩
/-- holds -/
theorem kp_holds (hst : ∀ (Ad : Nat → Prop) (U : State) (H : Heap), xt Ad U H → ∃ pl v tx, sk_X pl v Ad U H ∧ vk_R "GooseIceModel" 189 tx pl U) : lw_sem l D xt gn_TY (gn_X lw_twM) ads lw_twM 13 336 (List.replicate 0 0) (List.replicate 0 gn_i) (lw_unQ 0 mw_W) := by
  refine mx_keep (k := 9) hst (fun g tp bt a b xs hx hI => ?_)
  obtain rfl := List.length_eq_zero_iff.mp hx
  obtain ⟨v, mem', hP, hf⟩ := fr_holds (g := g) (tp := tp) (bt := bt) (a := a) (b := b)  hI.2.1 (fm_I_gb hI)
  exact ⟨v, mem', fm_I_PO hI hP, fm_PK_O hP, hf⟩
/-- wayAt -/
theorem kp_wayAt (hst : ∀ (Ad : Nat → Prop) (U : State) (H : Heap), xt Ad U H → ∃ pl v tx, sk_X pl v Ad U H ∧ vk_R "GooseIceModel" 189 tx pl U) : lw_sem l D xt gn_TY (gn_X lw_twM) ads lw_twM 12 311 (List.replicate 3 0) (List.replicate 3 gn_i) (lw_unQ 0 mw_W) := by
  refine mx_keep (k := 8) hst (fun g tp bt a b xs hx hI => ?_)
  obtain ⟨x0, xs0, rfl, hx0⟩ := fm_xsS hx
  obtain ⟨x1, xs1, rfl, hx1⟩ := fm_xsS hx0
  obtain ⟨x2, xs2, rfl, hx2⟩ := fm_xsS hx1
  obtain rfl := List.length_eq_zero_iff.mp hx2
  obtain ⟨v, mem', hP, hf⟩ := fr_wayAtP (g := g) (tp := tp) (bt := bt) (a := a) (b := b) (w := x0) (c := x1) (k := x2) hI.2.1 (fm_I_gb hI)
  exact ⟨v, mem', fm_I_PO hI hP, fm_PK_O hP, hf⟩
/-- surestAt -/
theorem kp_surestAt (hst : ∀ (Ad : Nat → Prop) (U : State) (H : Heap), xt Ad U H → ∃ pl v tx, sk_X pl v Ad U H ∧ vk_R "GooseIceModel" 189 tx pl U) : lw_sem l D xt gn_TY (gn_X lw_twM) ads lw_twM 13 317 (List.replicate 3 0) (List.replicate 3 gn_i) (lw_unQ 0 mw_W) := by
  refine mx_keep (k := 9) hst (fun g tp bt a b xs hx hI => ?_)
  obtain ⟨x0, xs0, rfl, hx0⟩ := fm_xsS hx
  obtain ⟨x1, xs1, rfl, hx1⟩ := fm_xsS hx0
  obtain ⟨x2, xs2, rfl, hx2⟩ := fm_xsS hx1
  obtain rfl := List.length_eq_zero_iff.mp hx2
  obtain ⟨v, mem', hP, hf⟩ := fr_surestAtP (g := g) (tp := tp) (bt := bt) (a := a) (b := b) (w := x0) (c := x1) (k := x2) hI.2.1 (fm_I_gb hI)
  exact ⟨v, mem', fm_I_PO hI hP, fm_PK_O hP, hf⟩
/-- send -/
theorem kp_send (hst : ∀ (Ad : Nat → Prop) (U : State) (H : Heap), xt Ad U H → ∃ pl v tx, sk_X pl v Ad U H ∧ vk_R "GooseIceModel" 189 tx pl U) : lw_sem l D xt gn_TY (gn_X lw_twM) ads lw_twM 13 289 (List.replicate 3 0) (List.replicate 3 gn_i) (lw_unQ 0 mw_W) := by
  refine mx_keep (k := 9) hst (fun g tp bt a b xs hx hI => ?_)
  obtain ⟨x0, xs0, rfl, hx0⟩ := fm_xsS hx
  obtain ⟨x1, xs1, rfl, hx1⟩ := fm_xsS hx0
  obtain ⟨x2, xs2, rfl, hx2⟩ := fm_xsS hx1
  obtain rfl := List.length_eq_zero_iff.mp hx2
  obtain ⟨v, mem', hP, hf⟩ := fr_send (g := g) (tp := tp) (bt := bt) (a := a) (b := b) (w := x0) (t0 := x1) (n0 := x2) hI.2.1 (fm_I_gb hI)
  exact ⟨v, mem', fm_I_PO hI hP, fm_PK_O hP, hf⟩
/-- sendTo -/
theorem kp_sendTo (hst : ∀ (Ad : Nat → Prop) (U : State) (H : Heap), xt Ad U H → ∃ pl v tx, sk_X pl v Ad U H ∧ vk_R "GooseIceModel" 189 tx pl U) : lw_sem l D xt gn_TY (gn_X lw_twM) ads lw_twM 14 291 (List.replicate 2 0) (List.replicate 2 gn_i) (lw_unQ 0 mw_W) := by
  refine mx_keep (k := 10) hst (fun g tp bt a b xs hx hI => ?_)
  obtain ⟨x0, xs0, rfl, hx0⟩ := fm_xsS hx
  obtain ⟨x1, xs1, rfl, hx1⟩ := fm_xsS hx0
  obtain rfl := List.length_eq_zero_iff.mp hx1
  obtain ⟨v, mem', hP, hf⟩ := fr_sendTo (g := g) (tp := tp) (bt := bt) (a := a) (b := b) (w := x0) (c := x1) hI.2.1 (fm_I_gb hI)
  exact ⟨v, mem', fm_I_PO hI hP, fm_PK_O hP, hf⟩
/-- far -/
theorem kp_far (hst : ∀ (Ad : Nat → Prop) (U : State) (H : Heap), xt Ad U H → ∃ pl v tx, sk_X pl v Ad U H ∧ vk_R "GooseIceModel" 189 tx pl U) : lw_sem l D xt gn_TY (gn_X lw_twM) ads lw_twM 13 310 (List.replicate 2 0) (List.replicate 2 gn_i) (lw_unQ 0 mw_W) := by
  refine mx_keep (k := 9) hst (fun g tp bt a b xs hx hI => ?_)
  obtain ⟨x0, xs0, rfl, hx0⟩ := fm_xsS hx
  obtain ⟨x1, xs1, rfl, hx1⟩ := fm_xsS hx0
  obtain rfl := List.length_eq_zero_iff.mp hx1
  obtain ⟨v, mem', hP, hf⟩ := fr_far (g := g) (tp := tp) (bt := bt) (a := a) (b := b) (w := x0) (c := x1) hI.2.1 (fm_I_gb hI)
  exact ⟨v, mem', fm_I_PO hI hP, fm_PK_O hP, hf⟩
/-- surest -/
theorem kp_surest (hst : ∀ (Ad : Nat → Prop) (U : State) (H : Heap), xt Ad U H → ∃ pl v tx, sk_X pl v Ad U H ∧ vk_R "GooseIceModel" 189 tx pl U) : lw_sem l D xt gn_TY (gn_X lw_twM) ads lw_twM 14 315 (List.replicate 2 0) (List.replicate 2 gn_i) (lw_unQ 0 mw_W) := by
  refine mx_keep (k := 10) hst (fun g tp bt a b xs hx hI => ?_)
  obtain ⟨x0, xs0, rfl, hx0⟩ := fm_xsS hx
  obtain ⟨x1, xs1, rfl, hx1⟩ := fm_xsS hx0
  obtain rfl := List.length_eq_zero_iff.mp hx1
  obtain ⟨v, mem', hP, hf⟩ := fr_surest (g := g) (tp := tp) (bt := bt) (a := a) (b := b) (w := x0) (c := x1) hI.2.1 (fm_I_gb hI)
  exact ⟨v, mem', fm_I_PO hI hP, fm_PK_O hP, hf⟩
/-- surestFar -/
theorem kp_surestFar (hst : ∀ (Ad : Nat → Prop) (U : State) (H : Heap), xt Ad U H → ∃ pl v tx, sk_X pl v Ad U H ∧ vk_R "GooseIceModel" 189 tx pl U) : lw_sem l D xt gn_TY (gn_X lw_twM) ads lw_twM 14 316 (List.replicate 2 0) (List.replicate 2 gn_i) (lw_unQ 0 mw_W) := by
  refine mx_keep (k := 10) hst (fun g tp bt a b xs hx hI => ?_)
  obtain ⟨x0, xs0, rfl, hx0⟩ := fm_xsS hx
  obtain ⟨x1, xs1, rfl, hx1⟩ := fm_xsS hx0
  obtain rfl := List.length_eq_zero_iff.mp hx1
  obtain ⟨v, mem', hP, hf⟩ := fr_surestFar (g := g) (tp := tp) (bt := bt) (a := a) (b := b) (w := x0) (c := x1) hI.2.1 (fm_I_gb hI)
  exact ⟨v, mem', fm_I_PO hI hP, fm_PK_O hP, hf⟩
/-- reach -/
theorem kp_reach (hst : ∀ (Ad : Nat → Prop) (U : State) (H : Heap), xt Ad U H → ∃ pl v tx, sk_X pl v Ad U H ∧ vk_R "GooseIceModel" 189 tx pl U) : lw_sem l D xt gn_TY (gn_X lw_twM) ads lw_twM 13 318 (List.replicate 1 0) (List.replicate 1 gn_i) (lw_unQ 0 mw_W) := by
  refine mx_keep (k := 9) hst (fun g tp bt a b xs hx hI => ?_)
  obtain ⟨x0, xs0, rfl, hx0⟩ := fm_xsS hx
  obtain rfl := List.length_eq_zero_iff.mp hx0
  obtain ⟨v, mem', hP, hf⟩ := fr_reach (g := g) (tp := tp) (bt := bt) (a := a) (b := b) (w := x0) hI.2.1 (fm_I_gb hI)
  exact ⟨v, mem', fm_I_PO hI hP, fm_PK_O hP, hf⟩
/-- cut -/
theorem kp_cut (hst : ∀ (Ad : Nat → Prop) (U : State) (H : Heap), xt Ad U H → ∃ pl v tx, sk_X pl v Ad U H ∧ vk_R "GooseIceModel" 189 tx pl U) : lw_sem l D xt gn_TY (gn_X lw_twM) ads lw_twM 14 320 (List.replicate 2 0) (List.replicate 2 gn_i) (lw_unQ 0 mw_W) := by
  refine mx_keep (k := 10) hst (fun g tp bt a b xs hx hI => ?_)
  obtain ⟨x0, xs0, rfl, hx0⟩ := fm_xsS hx
  obtain ⟨x1, xs1, rfl, hx1⟩ := fm_xsS hx0
  obtain rfl := List.length_eq_zero_iff.mp hx1
  obtain ⟨v, mem', hP, hf⟩ := fr_cut (g := g) (tp := tp) (bt := bt) (a := a) (b := b) (w := x0) (c := x1) hI.2.1 (fm_I_gb hI)
  exact ⟨v, mem', fm_I_PO hI hP, fm_PK_O hP, hf⟩
/-- cutSet -/
theorem kp_cutSet (hst : ∀ (Ad : Nat → Prop) (U : State) (H : Heap), xt Ad U H → ∃ pl v tx, sk_X pl v Ad U H ∧ vk_R "GooseIceModel" 189 tx pl U) : lw_sem l D xt gn_TY (gn_X lw_twM) ads lw_twM 14 321 (List.replicate 2 0) (List.replicate 2 gn_i) (lw_unQ 0 mw_W) := by
  refine mx_keep (k := 10) hst (fun g tp bt a b xs hx hI => ?_)
  obtain ⟨x0, xs0, rfl, hx0⟩ := fm_xsS hx
  obtain ⟨x1, xs1, rfl, hx1⟩ := fm_xsS hx0
  obtain rfl := List.length_eq_zero_iff.mp hx1
  obtain ⟨v, mem', hP, hf⟩ := fr_cutSet (g := g) (tp := tp) (bt := bt) (a := a) (b := b) (w := x0) (c := x1) hI.2.1 (fm_I_gb hI)
  exact ⟨v, mem', fm_I_PO hI hP, fm_PK_O hP, hf⟩
/-- live -/
theorem kp_live (hst : ∀ (Ad : Nat → Prop) (U : State) (H : Heap), xt Ad U H → ∃ pl v tx, sk_X pl v Ad U H ∧ vk_R "GooseIceModel" 189 tx pl U) : lw_sem l D xt gn_TY (gn_X lw_twM) ads lw_twM 17 366 (List.replicate 1 0) (List.replicate 1 gn_i) (lw_unQ 0 mw_W) := by
  refine mx_keep (k := 13) hst (fun g tp bt a b xs hx hI => ?_)
  obtain ⟨x0, xs0, rfl, hx0⟩ := fm_xsS hx
  obtain rfl := List.length_eq_zero_iff.mp hx0
  obtain ⟨v, mem', hP, hf⟩ := fr_live (g := g) (tp := tp) (bt := bt) (a := a) (b := b) (sd := x0) hI.2.1 (fm_I_gb hI)
  exact ⟨v, mem', fm_I_PO hI hP, fm_PK_O hP, hf⟩
/-- mean -/
theorem kp_mean (hst : ∀ (Ad : Nat → Prop) (U : State) (H : Heap), xt Ad U H → ∃ pl v tx, sk_X pl v Ad U H ∧ vk_R "GooseIceModel" 189 tx pl U) : lw_sem l D xt gn_TY (gn_X lw_twM) ads lw_twM 18 368 (List.replicate 2 0) (List.replicate 2 gn_i) (lw_unQ 0 mw_W) := by
  refine mx_keep (k := 14) hst (fun g tp bt a b xs hx hI => ?_)
  obtain ⟨x0, xs0, rfl, hx0⟩ := fm_xsS hx
  obtain ⟨x1, xs1, rfl, hx1⟩ := fm_xsS hx0
  obtain rfl := List.length_eq_zero_iff.mp hx1
  obtain ⟨v, mem', hP, hf⟩ := fr_mean (g := g) (tp := tp) (bt := bt) (a := a) (b := b) (sd := x0) (my := x1) hI.2.1 (fm_I_gb hI)
  exact ⟨v, mem', fm_I_PZ hI hP, fm_PK_Z hP, hf⟩
/-- odds -/
theorem kp_odds (hst : ∀ (Ad : Nat → Prop) (U : State) (H : Heap), xt Ad U H → ∃ pl v tx, sk_X pl v Ad U H ∧ vk_R "GooseIceModel" 189 tx pl U) : lw_sem l D xt gn_TY (gn_X lw_twM) ads lw_twM 13 355 (List.replicate 5 0) (List.replicate 5 gn_i) (lw_unQ 0 mw_W) := by
  refine mx_keep (k := 9) hst (fun g tp bt a b xs hx hI => ?_)
  obtain ⟨x0, xs0, rfl, hx0⟩ := fm_xsS hx
  obtain ⟨x1, xs1, rfl, hx1⟩ := fm_xsS hx0
  obtain ⟨x2, xs2, rfl, hx2⟩ := fm_xsS hx1
  obtain ⟨x3, xs3, rfl, hx3⟩ := fm_xsS hx2
  obtain ⟨x4, xs4, rfl, hx4⟩ := fm_xsS hx3
  obtain rfl := List.length_eq_zero_iff.mp hx4
  obtain ⟨v, mem', hP, hf⟩ := fr_odds (g := g) (tp := tp) (bt := bt) (a := a) (b := b) (c := x0) (m := x1) (dd := x2) (f := x3) (t := x4) hI.2.1 (fm_I_gb hI)
  exact ⟨v, mem', fm_I_PZ hI hP, fm_PK_Z hP, hf⟩
/-- meanIn -/
theorem kp_meanIn (hst : ∀ (Ad : Nat → Prop) (U : State) (H : Heap), xt Ad U H → ∃ pl v tx, sk_X pl v Ad U H ∧ vk_R "GooseIceModel" 189 tx pl U) : lw_sem l D xt gn_TY (gn_X lw_twM) ads lw_twM 13 357 (List.replicate 4 0) (List.replicate 4 gn_i) (lw_unQ 0 mw_W) := by
  refine mx_keep (k := 9) hst (fun g tp bt a b xs hx hI => ?_)
  obtain ⟨x0, xs0, rfl, hx0⟩ := fm_xsS hx
  obtain ⟨x1, xs1, rfl, hx1⟩ := fm_xsS hx0
  obtain ⟨x2, xs2, rfl, hx2⟩ := fm_xsS hx1
  obtain ⟨x3, xs3, rfl, hx3⟩ := fm_xsS hx2
  obtain rfl := List.length_eq_zero_iff.mp hx3
  obtain ⟨v, mem', hP, hf⟩ := fr_meanIn (g := g) (tp := tp) (bt := bt) (a := a) (b := b) (c := x0) (dd := x1) (f := x2) (t := x3) hI.2.1 (fm_I_gb hI)
  exact ⟨v, mem', fm_I_PZ hI hP, fm_PK_Z hP, hf⟩
/-- bestDay -/
theorem kp_bestDay (hst : ∀ (Ad : Nat → Prop) (U : State) (H : Heap), xt Ad U H → ∃ pl v tx, sk_X pl v Ad U H ∧ vk_R "GooseIceModel" 189 tx pl U) : lw_sem l D xt gn_TY (gn_X lw_twM) ads lw_twM 13 356 (List.replicate 5 0) (List.replicate 5 gn_i) (lw_unQ 0 mw_W) := by
  refine mx_keep (k := 9) hst (fun g tp bt a b xs hx hI => ?_)
  obtain ⟨x0, xs0, rfl, hx0⟩ := fm_xsS hx
  obtain ⟨x1, xs1, rfl, hx1⟩ := fm_xsS hx0
  obtain ⟨x2, xs2, rfl, hx2⟩ := fm_xsS hx1
  obtain ⟨x3, xs3, rfl, hx3⟩ := fm_xsS hx2
  obtain ⟨x4, xs4, rfl, hx4⟩ := fm_xsS hx3
  obtain rfl := List.length_eq_zero_iff.mp hx4
  obtain ⟨v, mem', hP, hf⟩ := fr_bestDay (g := g) (tp := tp) (bt := bt) (a := a) (b := b) (c := x0) (m := x1) (dd := x2) (f := x3) (t := x4) hI.2.1 (fm_I_gb hI)
  exact ⟨v, mem', fm_I_PO hI hP, fm_PK_O hP, hf⟩
/-- suspects -/
theorem kp_suspects (hst : ∀ (Ad : Nat → Prop) (U : State) (H : Heap), xt Ad U H → ∃ pl v tx, sk_X pl v Ad U H ∧ vk_R "GooseIceModel" 189 tx pl U) : lw_sem l D xt gn_TY (gn_X lw_twM) ads lw_twM 14 350 (List.replicate 1 0) (List.replicate 1 gn_i) (lw_unQ 0 mw_W) := by
  refine mx_keep (k := 10) hst (fun g tp bt a b xs hx hI => ?_)
  obtain ⟨x0, xs0, rfl, hx0⟩ := fm_xsS hx
  obtain rfl := List.length_eq_zero_iff.mp hx0
  obtain ⟨v, mem', hP, hf⟩ := fr_suspects (g := g) (tp := tp) (bt := bt) (a := a) (b := b) (st := x0) hI.2.1 (fm_I_gb hI)
  exact ⟨v, mem', fm_I_PO hI hP, fm_PK_O hP, hf⟩
/-- queue -/
theorem kp_queue (hst : ∀ (Ad : Nat → Prop) (U : State) (H : Heap), xt Ad U H → ∃ pl v tx, sk_X pl v Ad U H ∧ vk_R "GooseIceModel" 189 tx pl U) : lw_sem l D xt gn_TY (gn_X lw_twM) ads lw_twM 14 334 (List.replicate 3 0) (List.replicate 3 gn_i) (lw_unQ 0 mw_W) := by
  refine mx_keep (k := 10) hst (fun g tp bt a b xs hx hI => ?_)
  obtain ⟨x0, xs0, rfl, hx0⟩ := fm_xsS hx
  obtain ⟨x1, xs1, rfl, hx1⟩ := fm_xsS hx0
  obtain ⟨x2, xs2, rfl, hx2⟩ := fm_xsS hx1
  obtain rfl := List.length_eq_zero_iff.mp hx2
  obtain ⟨v, mem', hP, hf⟩ := fr_queue (g := g) (tp := tp) (bt := bt) (a := a) (b := b) (set := x0) (tray := x1) (nn := x2) hI.2.1 (fm_I_gb hI)
  exact ⟨v, mem', fm_I_PO hI hP, fm_PK_O hP, hf⟩
/-- tryFirst -/
theorem kp_tryFirst (hst : ∀ (Ad : Nat → Prop) (U : State) (H : Heap), xt Ad U H → ∃ pl v tx, sk_X pl v Ad U H ∧ vk_R "GooseIceModel" 189 tx pl U) : lw_sem l D xt gn_TY (gn_X lw_twM) ads lw_twM 7 348 (List.replicate 2 0) (List.replicate 2 gn_i) (lw_unQ 0 mw_W) := by
  refine mx_keep (k := 3) hst (fun g tp bt a b xs hx hI => ?_)
  obtain ⟨x0, xs0, rfl, hx0⟩ := fm_xsS hx
  obtain ⟨x1, xs1, rfl, hx1⟩ := fm_xsS hx0
  obtain rfl := List.length_eq_zero_iff.mp hx1
  obtain ⟨v, mem', hP, hf⟩ := fr_tryFirst (g := g) (tp := tp) (bt := bt) (a := a) (b := b) (n := x0) (b2 := x1) hI.2.1 (fm_I_gb hI) (fun i hi => hI.2.2 (15, 427, 0, 1000000) (by decide) i hi)
  exact ⟨v, mem', fm_I_PT hI hP, fm_PK_T hP, hf⟩
end MXW
end MH23_0
section MH23_1
/-! ===== the model: way, beside, hew, weigh, exact ===== -/
/-- a number of one of n -/
abbrev inN (n c : Int32) : Prop := 0 ≤ c.toInt ∧ c.toInt < n.toInt
/-- two of n -/
abbrev twoN (n x y : Int32) : Prop := inN n x ∧ inN n y ∧ ¬ x = y
theorem inN_nat {n c : Int32} {m : Nat} (hn : n.toInt ≤ m) (h : inN n c) : ∃ C, C < m ∧ c = nI C ∧ (C : Int) = c.toInt := by
  obtain ⟨h1, h2⟩ := h
  refine ⟨c.toInt.toNat, by omega, ?_, by omega⟩
  have hl := Int32.toInt_lt c
  apply Int32.toInt_inj.mp
  rw [nI_i32 (by omega)]
  omega
theorem z64 : (0 : Int64).toInt = 0 := by decide
theorem lgc_geT {x y : Int64} (h : fx_cb .ge (lg_cmp x y) 0 = true) : y.toInt ≤ x.toInt := by
  rcases rk_lgc x y with ⟨z, w⟩ | ⟨z, w⟩ | ⟨z, w⟩
  · omega
  · omega
  · rw [z] at h; exact absurd h (by decide)
theorem fb_eq {A : Int32} {Y : Nat} (h : Y < 32) : fm_b A (nI Y) = (A >>> (nI Y &&& 31)) &&& 1 := by
  unfold fm_b
  rw [bi_v _ h]
  by_cases e : A.toBitVec.getLsbD Y = true
  · rw [if_pos e]; rfl
  · rw [if_neg e]; rfl
section MEX
variable {g : Nat → Int32} {tp bt : Int64} {a : Nat → Nat → Int32} {b : Nat → Nat → Int64}
theorem ml_cell {c : Int32} : fr_T 1 255 [.ref 0, .long c.toInt64] (fm g tp bt a b) (some (.int (if inN (a 1 0) c then 1 else 0))) (fm g tp bt a b) := by
  refine fr_meth (by rfl) (by rfl) ?_
  refine fr_s 3 (pc' := 3) (lc' := [(0, .ref 0), (1, .long c.toInt64)]) (stk' := [.int (lg_cmp c.toInt64 (0 : Int64))]) (mem' := fm g tp bt a b) (by intro _ _ _; eq_refl) ?_
  refine fr_s 1 (pc' := cond (fx_cb .lt (lg_cmp c.toInt64 (0 : Int64)) 0) 22 6) (lc' := [(0, .ref 0), (1, .long c.toInt64)]) (stk' := []) (mem' := fm g tp bt a b) (by intro _ _ _; eq_refl) ?_
  cases h1 : fx_cb .lt (lg_cmp c.toInt64 (0 : Int64)) 0
  · have p1 := lgc_ltF h1
    rw [Int32.toInt_toInt64, z64] at p1
    refine fr_s 4 (pc' := 12) (lc' := [(0, .ref 0), (1, .long c.toInt64)]) (stk' := [.int 0, .ref 1, .long c.toInt64]) (mem' := fm g tp bt a b) (by intro _ _ _; eq_refl) ?_
    refine fr_ldI (by rfl) (by rfl) (fx_inN (i := 0) (by omega) (by omega)) ?_
    rw [show Int32.toNatClampNeg (0) = 0 from rfl]
    refine fr_s 2 (pc' := 15) (lc' := [(0, .ref 0), (1, .long c.toInt64)]) (stk' := [.int (lg_cmp c.toInt64 ((a 1 0).toInt64))]) (mem' := fm g tp bt a b) (by intro _ _ _; eq_refl) ?_
    refine fr_s 1 (pc' := cond (fx_cb .ge (lg_cmp c.toInt64 ((a 1 0).toInt64)) 0) 22 18) (lc' := [(0, .ref 0), (1, .long c.toInt64)]) (stk' := []) (mem' := fm g tp bt a b) (by intro _ _ _; eq_refl) ?_
    cases h2 : fx_cb .ge (lg_cmp c.toInt64 ((a 1 0).toInt64)) 0
    · have p2 := lgc_geF h2
      rw [Int32.toInt_toInt64, Int32.toInt_toInt64] at p2
      rw [if_pos (show inN (a 1 0) c from ⟨p1, p2⟩)]
      refine fr_s 2 (pc' := 23) (lc' := [(0, .ref 0), (1, .long c.toInt64)]) (stk' := [.int 1]) (mem' := fm g tp bt a b) (by intro _ _ _; eq_refl) ?_
      exact fr_ret (by rfl) (by rfl) (by rfl)
    · have p2 := lgc_geT h2
      rw [Int32.toInt_toInt64, Int32.toInt_toInt64] at p2
      rw [if_neg (show ¬ inN (a 1 0) c from fun z => by have := z.2; omega)]
      refine fr_s 1 (pc' := 23) (lc' := [(0, .ref 0), (1, .long c.toInt64)]) (stk' := [.int 0]) (mem' := fm g tp bt a b) (by intro _ _ _; eq_refl) ?_
      exact fr_ret (by rfl) (by rfl) (by rfl)
  · have p1 := lgc_ltT h1
    rw [Int32.toInt_toInt64, z64] at p1
    rw [if_neg (show ¬ inN (a 1 0) c from fun z => by have := z.1; omega)]
    refine fr_s 1 (pc' := 23) (lc' := [(0, .ref 0), (1, .long c.toInt64)]) (stk' := [.int 0]) (mem' := fm g tp bt a b) (by intro _ _ _; eq_refl) ?_
    exact fr_ret (by rfl) (by rfl) (by rfl)
theorem ml_two {x y : Int32} : fr_T 2 278 [.ref 0, .int x, .int y] (fm g tp bt a b) (some (.int (if twoN (a 1 0) x y then 1 else 0))) (fm g tp bt a b) := by
  refine fr_meth (by rfl) (by rfl) ?_
  refine fr_s 3 (pc' := 3) (lc' := [(0, .ref 0), (1, .int x), (2, .int y)]) (stk' := [.long x.toInt64, .ref 0]) (mem' := fm g tp bt a b) (by intro _ _ _; eq_refl) ?_
  refine fr_ivV ml_cell (by omega) (by rfl) (by rfl) (by rfl) (by rfl) (by rfl) (by rfl) ?_
  by_cases h1 : inN (a 1 0) x
  · rw [if_pos h1]
    refine fr_s 1 (pc' := cond (fx_cb .eq 1 0) 27 9) (lc' := [(0, .ref 0), (1, .int x), (2, .int y)]) (stk' := []) (mem' := fm g tp bt a b) (by intro _ _ _; eq_refl) ?_
    rw [show fx_cb .eq 1 0 = false from by decide]
    dsimp only [cond]
    refine fr_s 3 (pc' := 12) (lc' := [(0, .ref 0), (1, .int x), (2, .int y)]) (stk' := [.long y.toInt64, .ref 0]) (mem' := fm g tp bt a b) (by intro _ _ _; eq_refl) ?_
    refine fr_ivV ml_cell (by omega) (by rfl) (by rfl) (by rfl) (by rfl) (by rfl) (by rfl) ?_
    by_cases h2 : inN (a 1 0) y
    · rw [if_pos h2]
      refine fr_s 1 (pc' := cond (fx_cb .eq 1 0) 27 18) (lc' := [(0, .ref 0), (1, .int x), (2, .int y)]) (stk' := []) (mem' := fm g tp bt a b) (by intro _ _ _; eq_refl) ?_
      rw [show fx_cb .eq 1 0 = false from by decide]
      dsimp only [cond]
      refine fr_s 2 (pc' := 20) (lc' := [(0, .ref 0), (1, .int x), (2, .int y)]) (stk' := [.int y, .int x]) (mem' := fm g tp bt a b) (by intro _ _ _; eq_refl) ?_
      by_cases h3 : x = y
      · rw [if_neg (show ¬ twoN (a 1 0) x y from fun z => z.2.2 h3)]
        refine fr_s 1 (pc' := cond (fx_cb .eq x y) 27 23) (lc' := [(0, .ref 0), (1, .int x), (2, .int y)]) (stk' := []) (mem' := fm g tp bt a b) (by intro _ _ _; eq_refl) ?_
        rw [show fx_cb .eq x y = true from decide_eq_true h3]
        dsimp only [cond]
        refine fr_s 1 (pc' := 28) (lc' := [(0, .ref 0), (1, .int x), (2, .int y)]) (stk' := [.int 0]) (mem' := fm g tp bt a b) (by intro _ _ _; eq_refl) ?_
        exact fr_ret (by rfl) (by rfl) (by rfl)
      · rw [if_pos (show twoN (a 1 0) x y from ⟨h1, h2, h3⟩)]
        refine fr_s 1 (pc' := cond (fx_cb .eq x y) 27 23) (lc' := [(0, .ref 0), (1, .int x), (2, .int y)]) (stk' := []) (mem' := fm g tp bt a b) (by intro _ _ _; eq_refl) ?_
        rw [show fx_cb .eq x y = false from decide_eq_false h3]
        dsimp only [cond]
        refine fr_s 2 (pc' := 28) (lc' := [(0, .ref 0), (1, .int x), (2, .int y)]) (stk' := [.int 1]) (mem' := fm g tp bt a b) (by intro _ _ _; eq_refl) ?_
        exact fr_ret (by rfl) (by rfl) (by rfl)
    · rw [if_neg h2, if_neg (show ¬ twoN (a 1 0) x y from fun z => h2 z.2.1)]
      refine fr_s 1 (pc' := cond (fx_cb .eq 0 0) 27 18) (lc' := [(0, .ref 0), (1, .int x), (2, .int y)]) (stk' := []) (mem' := fm g tp bt a b) (by intro _ _ _; eq_refl) ?_
      rw [show fx_cb .eq 0 0 = true from by decide]
      dsimp only [cond]
      refine fr_s 1 (pc' := 28) (lc' := [(0, .ref 0), (1, .int x), (2, .int y)]) (stk' := [.int 0]) (mem' := fm g tp bt a b) (by intro _ _ _; eq_refl) ?_
      exact fr_ret (by rfl) (by rfl) (by rfl)
  · rw [if_neg h1, if_neg (show ¬ twoN (a 1 0) x y from fun z => h1 z.1)]
    refine fr_s 1 (pc' := cond (fx_cb .eq 0 0) 27 9) (lc' := [(0, .ref 0), (1, .int x), (2, .int y)]) (stk' := []) (mem' := fm g tp bt a b) (by intro _ _ _; eq_refl) ?_
    rw [show fx_cb .eq 0 0 = true from by decide]
    dsimp only [cond]
    refine fr_s 1 (pc' := 28) (lc' := [(0, .ref 0), (1, .int x), (2, .int y)]) (stk' := [.int 0]) (mem' := fm g tp bt a b) (by intro _ _ _; eq_refl) ?_
    exact fr_ret (by rfl) (by rfl) (by rfl)
theorem ml_wayF {x y : Int32} (h : ¬ twoN (a 1 0) x y) : fr_T 4 279 [.ref 0, .int x, .int y] (fm g tp bt a b) (some (.int (-1))) (fm (upd g 2 1) tp bt a b) := by
  refine fr_meth (by rfl) (by rfl) ?_
  refine fr_s 3 (pc' := 3) (lc' := [(0, .ref 0), (1, .int x), (2, .int y)]) (stk' := [.int y, .int x, .ref 0]) (mem' := fm g tp bt a b) (by intro _ _ _; eq_refl) ?_
  refine fr_ivV ml_two (by omega) (by rfl) (by rfl) (by rfl) (by rfl) (by rfl) (by rfl) ?_
  rw [if_neg h]
  refine fr_s 1 (pc' := cond (fx_cb .eq 0 0) 30 9) (lc' := [(0, .ref 0), (1, .int x), (2, .int y)]) (stk' := []) (mem' := fm g tp bt a b) (by intro _ _ _; eq_refl) ?_
  rw [show fx_cb .eq 0 0 = true from by decide]
  dsimp only [cond]
  refine fr_s 2 (pc' := 32) (lc' := [(0, .ref 0), (1, .int x), (2, .int y)]) (stk' := [.int 1, .ref 0]) (mem' := fm g tp bt a b) (by intro _ _ _; eq_refl) ?_
  refine fr_ivV (fr_refuse (x := 1)) (by omega) (by rfl) (by rfl) (by rfl) (by rfl) (by rfl) (by rfl) ?_
  exact fr_ret (by rfl) (by rfl) (by rfl)
theorem ml_wayT {X : Nat} {y : Int32} (hX : X < 10) (h : twoN (a 1 0) (nI X) y) : fr_T 4 279 [.ref 0, .int (nI X), .int y] (fm g tp bt a b) (some (.int (fm_b (a 1 (10 + 6 * X)) y))) (fm (upd g 2 0) tp bt a b) := by
  refine fr_meth (by rfl) (by rfl) ?_
  refine fr_s 3 (pc' := 3) (lc' := [(0, .ref 0), (1, .int (nI X)), (2, .int y)]) (stk' := [.int y, .int (nI X), .ref 0]) (mem' := fm g tp bt a b) (by intro _ _ _; eq_refl) ?_
  refine fr_ivV ml_two (by omega) (by rfl) (by rfl) (by rfl) (by rfl) (by rfl) (by rfl) ?_
  rw [if_pos h]
  refine fr_s 1 (pc' := cond (fx_cb .eq 1 0) 30 9) (lc' := [(0, .ref 0), (1, .int (nI X)), (2, .int y)]) (stk' := []) (mem' := fm g tp bt a b) (by intro _ _ _; eq_refl) ?_
  rw [show fx_cb .eq 1 0 = false from by decide]
  dsimp only [cond]
  refine fr_s 4 (pc' := 13) (lc' := [(0, .ref 0), (1, .int (nI X)), (2, .int y)]) (stk' := [.int y, .int (nI X), .ref 0, .ref 0]) (mem' := fm g tp bt a b) (by intro _ _ _; eq_refl) ?_
  refine fr_ivV (fr_isWay hX) (by omega) (by rfl) (by rfl) (by rfl) (by rfl) (by rfl) (by rfl) ?_
  rcases fm_b_01 (a 1 (10 + 6 * X)) y with e | e
  · rw [e]
    refine fr_s 1 (pc' := cond (fx_cb .eq 0 0) 23 19) (lc' := [(0, .ref 0), (1, .int (nI X)), (2, .int y)]) (stk' := [.ref 0]) (mem' := fm g tp bt a b) (by intro _ _ _; eq_refl) ?_
    rw [show fx_cb .eq 0 0 = true from by decide]
    dsimp only [cond]
    refine fr_s 1 (pc' := 24) (lc' := [(0, .ref 0), (1, .int (nI X)), (2, .int y)]) (stk' := [.int 0, .ref 0]) (mem' := fm g tp bt a b) (by intro _ _ _; eq_refl) ?_
    refine fr_ivV (fr_gives (x := 0)) (by omega) (by rfl) (by rfl) (by rfl) (by rfl) (by rfl) (by rfl) ?_
    refine fr_s 1 (pc' := 35) (lc' := [(0, .ref 0), (1, .int (nI X)), (2, .int y)]) (stk' := [.int 0]) (mem' := fm (upd g 2 0) tp bt a b) (by intro _ _ _; eq_refl) ?_
    exact fr_ret (by rfl) (by rfl) (by rfl)
  · rw [e]
    refine fr_s 1 (pc' := cond (fx_cb .eq 1 0) 23 19) (lc' := [(0, .ref 0), (1, .int (nI X)), (2, .int y)]) (stk' := [.ref 0]) (mem' := fm g tp bt a b) (by intro _ _ _; eq_refl) ?_
    rw [show fx_cb .eq 1 0 = false from by decide]
    dsimp only [cond]
    refine fr_s 2 (pc' := 24) (lc' := [(0, .ref 0), (1, .int (nI X)), (2, .int y)]) (stk' := [.int 1, .ref 0]) (mem' := fm g tp bt a b) (by intro _ _ _; eq_refl) ?_
    refine fr_ivV (fr_gives (x := 1)) (by omega) (by rfl) (by rfl) (by rfl) (by rfl) (by rfl) (by rfl) ?_
    refine fr_s 1 (pc' := 35) (lc' := [(0, .ref 0), (1, .int (nI X)), (2, .int y)]) (stk' := [.int 1]) (mem' := fm (upd g 2 0) tp bt a b) (by intro _ _ _; eq_refl) ?_
    exact fr_ret (by rfl) (by rfl) (by rfl)
theorem ml_besF {x y : Int32} (h : ¬ twoN (a 1 0) x y) : fr_T 4 280 [.ref 0, .int x, .int y] (fm g tp bt a b) (some (.int (-1))) (fm (upd g 2 1) tp bt a b) := by
  refine fr_meth (by rfl) (by rfl) ?_
  refine fr_s 3 (pc' := 3) (lc' := [(0, .ref 0), (1, .int x), (2, .int y)]) (stk' := [.int y, .int x, .ref 0]) (mem' := fm g tp bt a b) (by intro _ _ _; eq_refl) ?_
  refine fr_ivV ml_two (by omega) (by rfl) (by rfl) (by rfl) (by rfl) (by rfl) (by rfl) ?_
  rw [if_neg h]
  refine fr_s 1 (pc' := cond (fx_cb .eq 0 0) 40 9) (lc' := [(0, .ref 0), (1, .int x), (2, .int y)]) (stk' := []) (mem' := fm g tp bt a b) (by intro _ _ _; eq_refl) ?_
  rw [show fx_cb .eq 0 0 = true from by decide]
  dsimp only [cond]
  refine fr_s 2 (pc' := 42) (lc' := [(0, .ref 0), (1, .int x), (2, .int y)]) (stk' := [.int 1, .ref 0]) (mem' := fm g tp bt a b) (by intro _ _ _; eq_refl) ?_
  refine fr_ivV (fr_refuse (x := 1)) (by omega) (by rfl) (by rfl) (by rfl) (by rfl) (by rfl) (by rfl) ?_
  exact fr_ret (by rfl) (by rfl) (by rfl)
theorem ml_besT {X : Nat} {y : Int32} (hX : X < 10) (h : twoN (a 1 0) (nI X) y) : fr_T 4 280 [.ref 0, .int (nI X), .int y] (fm g tp bt a b) (some (.int (fm_b (a 1 (11 + 6 * X)) y))) (fm (upd g 2 0) tp bt a b) := by
  refine fr_meth (by rfl) (by rfl) ?_
  have e1 : 8 + 6 * nI X + 3 = nI (11 + 6 * X) := by
    rw [show (8 : Int32) = nI 8 from rfl, show (6 : Int32) = nI 6 from rfl, show (3 : Int32) = nI 3 from rfl, fm_mul, nI_add, nI_add]
    congr 1
    omega
  refine fr_s 3 (pc' := 3) (lc' := [(0, .ref 0), (1, .int (nI X)), (2, .int y)]) (stk' := [.int y, .int (nI X), .ref 0]) (mem' := fm g tp bt a b) (by intro _ _ _; eq_refl) ?_
  refine fr_ivV ml_two (by omega) (by rfl) (by rfl) (by rfl) (by rfl) (by rfl) (by rfl) ?_
  rw [if_pos h]
  refine fr_s 1 (pc' := cond (fx_cb .eq 1 0) 40 9) (lc' := [(0, .ref 0), (1, .int (nI X)), (2, .int y)]) (stk' := []) (mem' := fm g tp bt a b) (by intro _ _ _; eq_refl) ?_
  rw [show fx_cb .eq 1 0 = false from by decide]
  dsimp only [cond]
  refine fr_s 5 (pc' := 16) (lc' := [(0, .ref 0), (1, .int (nI X)), (2, .int y)]) (stk' := [.int (nI X), .ref 1, .ref 0, .ref 0]) (mem' := fm g tp bt a b) (by intro _ _ _; eq_refl) ?_
  refine fr_ivS fr_cellRow (by omega) (by rfl) (by rfl) (by rfl) (by rfl) (by rfl) ?_
  refine fr_s 2 (pc' := 21) (lc' := [(0, .ref 0), (1, .int (nI X)), (2, .int y)]) (stk' := [.int ((8 + 6 * nI X) + 3), .ref 1, .ref 0, .ref 0]) (mem' := fm g tp bt a b) (by intro _ _ _; eq_refl) ?_
  rw [e1]
  refine fr_ldI (by rfl) (by rfl) (fx_inN (by omega) (by omega)) ?_
  rw [nI_clamp (by omega)]
  refine fr_s 1 (pc' := 23) (lc' := [(0, .ref 0), (1, .int (nI X)), (2, .int y)]) (stk' := [.int y, .int (a 1 (11 + 6 * X)), .ref 0, .ref 0]) (mem' := fm g tp bt a b) (by intro _ _ _; eq_refl) ?_
  refine fr_ivV fr_isIn (by omega) (by rfl) (by rfl) (by rfl) (by rfl) (by rfl) (by rfl) ?_
  rcases fm_b_01 (a 1 (11 + 6 * X)) y with e | e
  · rw [e]
    refine fr_s 1 (pc' := cond (fx_cb .eq 0 0) 33 29) (lc' := [(0, .ref 0), (1, .int (nI X)), (2, .int y)]) (stk' := [.ref 0]) (mem' := fm g tp bt a b) (by intro _ _ _; eq_refl) ?_
    rw [show fx_cb .eq 0 0 = true from by decide]
    dsimp only [cond]
    refine fr_s 1 (pc' := 34) (lc' := [(0, .ref 0), (1, .int (nI X)), (2, .int y)]) (stk' := [.int 0, .ref 0]) (mem' := fm g tp bt a b) (by intro _ _ _; eq_refl) ?_
    refine fr_ivV (fr_gives (x := 0)) (by omega) (by rfl) (by rfl) (by rfl) (by rfl) (by rfl) (by rfl) ?_
    refine fr_s 1 (pc' := 45) (lc' := [(0, .ref 0), (1, .int (nI X)), (2, .int y)]) (stk' := [.int 0]) (mem' := fm (upd g 2 0) tp bt a b) (by intro _ _ _; eq_refl) ?_
    exact fr_ret (by rfl) (by rfl) (by rfl)
  · rw [e]
    refine fr_s 1 (pc' := cond (fx_cb .eq 1 0) 33 29) (lc' := [(0, .ref 0), (1, .int (nI X)), (2, .int y)]) (stk' := [.ref 0]) (mem' := fm g tp bt a b) (by intro _ _ _; eq_refl) ?_
    rw [show fx_cb .eq 1 0 = false from by decide]
    dsimp only [cond]
    refine fr_s 2 (pc' := 34) (lc' := [(0, .ref 0), (1, .int (nI X)), (2, .int y)]) (stk' := [.int 1, .ref 0]) (mem' := fm g tp bt a b) (by intro _ _ _; eq_refl) ?_
    refine fr_ivV (fr_gives (x := 1)) (by omega) (by rfl) (by rfl) (by rfl) (by rfl) (by rfl) (by rfl) ?_
    refine fr_s 1 (pc' := 45) (lc' := [(0, .ref 0), (1, .int (nI X)), (2, .int y)]) (stk' := [.int 1]) (mem' := fm (upd g 2 0) tp bt a b) (by intro _ _ _; eq_refl) ?_
    exact fr_ret (by rfl) (by rfl) (by rfl)
theorem ml_is0 : fr_T 1 206 [.ref 0, .int 0] (fm g tp bt a b) (some (.int 1)) (fm (upd g 2 0) tp bt a b) := by
  refine fr_meth (by rfl) (by rfl) ?_
  refine fr_s 4 (pc' := 6) (lc' := [(0, .ref 0), (1, .int 0)]) (stk' := [.int 0]) (mem' := fm (upd g 2 0) tp bt a b) (by intro _ _ _; eq_refl) ?_
  refine fr_s 1 (pc' := cond (fx_cb .ne 0 0) 13 9) (lc' := [(0, .ref 0), (1, .int 0)]) (stk' := []) (mem' := fm (upd g 2 0) tp bt a b) (by intro _ _ _; eq_refl) ?_
  rw [show fx_cb .ne 0 0 = false from by decide]
  dsimp only [cond]
  refine fr_s 2 (pc' := 14) (lc' := [(0, .ref 0), (1, .int 0)]) (stk' := [.int 1]) (mem' := fm (upd g 2 0) tp bt a b) (by intro _ _ _; eq_refl) ?_
  exact fr_ret (by rfl) (by rfl) (by rfl)
theorem ml_is1 : fr_T 1 206 [.ref 0, .int 1] (fm g tp bt a b) (some (.int 0)) (fm (upd g 2 1) tp bt a b) := by
  refine fr_meth (by rfl) (by rfl) ?_
  refine fr_s 4 (pc' := 6) (lc' := [(0, .ref 0), (1, .int 1)]) (stk' := [.int 1]) (mem' := fm (upd g 2 1) tp bt a b) (by intro _ _ _; eq_refl) ?_
  refine fr_s 1 (pc' := cond (fx_cb .ne 1 0) 13 9) (lc' := [(0, .ref 0), (1, .int 1)]) (stk' := []) (mem' := fm (upd g 2 1) tp bt a b) (by intro _ _ _; eq_refl) ?_
  rw [show fx_cb .ne 1 0 = true from by decide]
  dsimp only [cond]
  refine fr_s 1 (pc' := 14) (lc' := [(0, .ref 0), (1, .int 1)]) (stk' := [.int 0]) (mem' := fm (upd g 2 1) tp bt a b) (by intro _ _ _; eq_refl) ?_
  exact fr_ret (by rfl) (by rfl) (by rfl)
theorem ml_hewF {x y z : Int32} (h : ¬ twoN (a 1 0) x y) : fr_T 4 301 [.ref 0, .int x, .int y, .int z] (fm g tp bt a b) (some (.int 0)) (fm (upd g 2 1) tp bt a b) := by
  refine fr_meth (by rfl) (by rfl) ?_
  refine fr_s 3 (pc' := 3) (lc' := [(0, .ref 0), (1, .int x), (2, .int y), (3, .int z)]) (stk' := [.int y, .int x, .ref 0]) (mem' := fm g tp bt a b) (by intro _ _ _; eq_refl) ?_
  refine fr_ivV ml_two (by omega) (by rfl) (by rfl) (by rfl) (by rfl) (by rfl) (by rfl) ?_
  rw [if_neg h]
  refine fr_s 1 (pc' := cond (fx_cb .ne 0 0) 15 9) (lc' := [(0, .ref 0), (1, .int x), (2, .int y), (3, .int z)]) (stk' := []) (mem' := fm g tp bt a b) (by intro _ _ _; eq_refl) ?_
  rw [show fx_cb .ne 0 0 = false from by decide]
  dsimp only [cond]
  refine fr_s 2 (pc' := 11) (lc' := [(0, .ref 0), (1, .int x), (2, .int y), (3, .int z)]) (stk' := [.int 1, .ref 0]) (mem' := fm g tp bt a b) (by intro _ _ _; eq_refl) ?_
  refine fr_ivV ml_is1 (by omega) (by rfl) (by rfl) (by rfl) (by rfl) (by rfl) (by rfl) ?_
  exact fr_ret (by rfl) (by rfl) (by rfl)
theorem ml_hewE {X Y : Nat} {z : Int32} (hX : X < 10) (h : twoN (a 1 0) (nI X) (nI Y)) (hz : fm_b (a 1 (10 + 6 * X)) (nI Y) = z) : fr_T 4 301 [.ref 0, .int (nI X), .int (nI Y), .int z] (fm g tp bt a b) (some (.int 0)) (fm (upd g 2 7) tp bt a b) := by
  refine fr_meth (by rfl) (by rfl) ?_
  refine fr_s 3 (pc' := 3) (lc' := [(0, .ref 0), (1, .int (nI X)), (2, .int (nI Y)), (3, .int z)]) (stk' := [.int (nI Y), .int (nI X), .ref 0]) (mem' := fm g tp bt a b) (by intro _ _ _; eq_refl) ?_
  refine fr_ivV ml_two (by omega) (by rfl) (by rfl) (by rfl) (by rfl) (by rfl) (by rfl) ?_
  rw [if_pos h]
  refine fr_s 1 (pc' := cond (fx_cb .ne 1 0) 15 9) (lc' := [(0, .ref 0), (1, .int (nI X)), (2, .int (nI Y)), (3, .int z)]) (stk' := []) (mem' := fm g tp bt a b) (by intro _ _ _; eq_refl) ?_
  rw [show fx_cb .ne 1 0 = true from by decide]
  dsimp only [cond]
  refine fr_s 3 (pc' := 18) (lc' := [(0, .ref 0), (1, .int (nI X)), (2, .int (nI Y)), (3, .int z)]) (stk' := [.int (nI Y), .int (nI X), .ref 0]) (mem' := fm g tp bt a b) (by intro _ _ _; eq_refl) ?_
  refine fr_ivV (fr_isWay hX) (by omega) (by rfl) (by rfl) (by rfl) (by rfl) (by rfl) (by rfl) ?_
  refine fr_s 1 (pc' := 22) (lc' := [(0, .ref 0), (1, .int (nI X)), (2, .int (nI Y)), (3, .int z)]) (stk' := [.int z, .int (fm_b (a 1 (10 + 6 * X)) (nI Y))]) (mem' := fm g tp bt a b) (by intro _ _ _; eq_refl) ?_
  rw [hz]
  refine fr_s 1 (pc' := cond (fx_cb .ne z z) 32 25) (lc' := [(0, .ref 0), (1, .int (nI X)), (2, .int (nI Y)), (3, .int z)]) (stk' := []) (mem' := fm g tp bt a b) (by intro _ _ _; eq_refl) ?_
  rw [show fx_cb .ne z z = false from by show (!decide (z = z)) = false; rw [decide_eq_true rfl]; rfl]
  dsimp only [cond]
  refine fr_s 2 (pc' := 28) (lc' := [(0, .ref 0), (1, .int (nI X)), (2, .int (nI Y)), (3, .int z)]) (stk' := [.int 7, .ref 0]) (mem' := fm g tp bt a b) (by intro _ _ _; eq_refl) ?_
  refine fr_ivV fr_isx7 (by omega) (by rfl) (by rfl) (by rfl) (by rfl) (by rfl) (by rfl) ?_
  exact fr_ret (by rfl) (by rfl) (by rfl)
theorem ml_hewT {X Y : Nat} {z : Int32} (hX : X < 10) (hY : Y < 10) (h : twoN (a 1 0) (nI X) (nI Y)) (hz : ¬ fm_b (a 1 (10 + 6 * X)) (nI Y) = z) : fr_T 4 301 [.ref 0, .int (nI X), .int (nI Y), .int z] (fm g tp bt a b) (some (.int 1)) (fm (upd g 2 0) tp bt (fm_u (fm_u a 1 (10 + 6 * X) (a 1 (10 + 6 * X) ^^^ ((1 : Int32) <<< (nI Y &&& 31)))) 1 (10 + 6 * Y) ((fm_u a 1 (10 + 6 * X) (a 1 (10 + 6 * X) ^^^ ((1 : Int32) <<< (nI Y &&& 31)))) 1 (10 + 6 * Y) ^^^ ((1 : Int32) <<< (nI X &&& 31)))) b) := by
  refine fr_meth (by rfl) (by rfl) ?_
  have e1 : ∀ k : Nat, 8 + 6 * nI k + 2 = nI (10 + 6 * k) := fun k => by
    rw [show (8 : Int32) = nI 8 from rfl, show (6 : Int32) = nI 6 from rfl, show (2 : Int32) = nI 2 from rfl, fm_mul, nI_add, nI_add]
    congr 1
    omega
  refine fr_s 3 (pc' := 3) (lc' := [(0, .ref 0), (1, .int (nI X)), (2, .int (nI Y)), (3, .int z)]) (stk' := [.int (nI Y), .int (nI X), .ref 0]) (mem' := fm g tp bt a b) (by intro _ _ _; eq_refl) ?_
  refine fr_ivV ml_two (by omega) (by rfl) (by rfl) (by rfl) (by rfl) (by rfl) (by rfl) ?_
  rw [if_pos h]
  refine fr_s 1 (pc' := cond (fx_cb .ne 1 0) 15 9) (lc' := [(0, .ref 0), (1, .int (nI X)), (2, .int (nI Y)), (3, .int z)]) (stk' := []) (mem' := fm g tp bt a b) (by intro _ _ _; eq_refl) ?_
  rw [show fx_cb .ne 1 0 = true from by decide]
  dsimp only [cond]
  refine fr_s 3 (pc' := 18) (lc' := [(0, .ref 0), (1, .int (nI X)), (2, .int (nI Y)), (3, .int z)]) (stk' := [.int (nI Y), .int (nI X), .ref 0]) (mem' := fm g tp bt a b) (by intro _ _ _; eq_refl) ?_
  refine fr_ivV (fr_isWay hX) (by omega) (by rfl) (by rfl) (by rfl) (by rfl) (by rfl) (by rfl) ?_
  refine fr_s 1 (pc' := 22) (lc' := [(0, .ref 0), (1, .int (nI X)), (2, .int (nI Y)), (3, .int z)]) (stk' := [.int z, .int (fm_b (a 1 (10 + 6 * X)) (nI Y))]) (mem' := fm g tp bt a b) (by intro _ _ _; eq_refl) ?_
  refine fr_s 1 (pc' := cond (fx_cb .ne (fm_b (a 1 (10 + 6 * X)) (nI Y)) z) 32 25) (lc' := [(0, .ref 0), (1, .int (nI X)), (2, .int (nI Y)), (3, .int z)]) (stk' := []) (mem' := fm g tp bt a b) (by intro _ _ _; eq_refl) ?_
  rw [show fx_cb .ne (fm_b (a 1 (10 + 6 * X)) (nI Y)) z = true from by show (!decide (_ = z)) = true; rw [decide_eq_false hz]; rfl]
  dsimp only [cond]
  refine fr_s 3 (pc' := 37) (lc' := [(0, .ref 0), (1, .int (nI X)), (2, .int (nI Y)), (3, .int z)]) (stk' := [.int (nI X), .ref 1]) (mem' := fm g tp bt a b) (by intro _ _ _; eq_refl) ?_
  refine fr_ivS fr_cellRow (by omega) (by rfl) (by rfl) (by rfl) (by rfl) (by rfl) ?_
  refine fr_s 2 (pc' := 42) (lc' := [(0, .ref 0), (1, .int (nI X)), (2, .int (nI Y)), (3, .int z)]) (stk' := [.int ((8 + 6 * nI X) + 2), .ref 1]) (mem' := fm g tp bt a b) (by intro _ _ _; eq_refl) ?_
  rw [e1 X]
  refine fr_s 1 (pc' := 43) (lc' := [(0, .ref 0), (1, .int (nI X)), (2, .int (nI Y)), (3, .int z)]) (stk' := [.int (nI (10 + 6 * X)), .ref 1, .int (nI (10 + 6 * X)), .ref 1]) (mem' := fm g tp bt a b) (by intro _ _ _; eq_refl) ?_
  refine fr_ldI (by rfl) (by rfl) (fx_inN (i := (10 + 6 * X)) (by omega) (by omega)) ?_
  rw [show Int32.toNatClampNeg (nI (10 + 6 * X)) = (10 + 6 * X) from nI_clamp (by omega)]
  refine fr_s 4 (pc' := 48) (lc' := [(0, .ref 0), (1, .int (nI X)), (2, .int (nI Y)), (3, .int z)]) (stk' := [.int (a 1 (10 + 6 * X) ^^^ ((1 : Int32) <<< (nI Y &&& 31))), .int (nI (10 + 6 * X)), .ref 1]) (mem' := fm g tp bt a b) (by intro _ _ _; eq_refl) ?_
  refine fr_stI (mem' := fm g tp bt (fm_u a 1 (nI (10 + 6 * X) : Int32).toNatClampNeg (a 1 (10 + 6 * X) ^^^ ((1 : Int32) <<< (nI Y &&& 31)))) b) (by rfl) (by rfl) (fx_inN (i := (10 + 6 * X)) (by omega) (by omega)) fm_si1 ?_
  rw [show Int32.toNatClampNeg (nI (10 + 6 * X)) = (10 + 6 * X) from nI_clamp (by omega)]
  refine fr_s 3 (pc' := 54) (lc' := [(0, .ref 0), (1, .int (nI X)), (2, .int (nI Y)), (3, .int z)]) (stk' := [.int (nI Y), .ref 1]) (mem' := fm g tp bt (fm_u a 1 (10 + 6 * X) (a 1 (10 + 6 * X) ^^^ ((1 : Int32) <<< (nI Y &&& 31)))) b) (by intro _ _ _; eq_refl) ?_
  refine fr_ivS fr_cellRow (by omega) (by rfl) (by rfl) (by rfl) (by rfl) (by rfl) ?_
  refine fr_s 2 (pc' := 59) (lc' := [(0, .ref 0), (1, .int (nI X)), (2, .int (nI Y)), (3, .int z)]) (stk' := [.int ((8 + 6 * nI Y) + 2), .ref 1]) (mem' := fm g tp bt (fm_u a 1 (10 + 6 * X) (a 1 (10 + 6 * X) ^^^ ((1 : Int32) <<< (nI Y &&& 31)))) b) (by intro _ _ _; eq_refl) ?_
  rw [e1 Y]
  refine fr_s 1 (pc' := 60) (lc' := [(0, .ref 0), (1, .int (nI X)), (2, .int (nI Y)), (3, .int z)]) (stk' := [.int (nI (10 + 6 * Y)), .ref 1, .int (nI (10 + 6 * Y)), .ref 1]) (mem' := fm g tp bt (fm_u a 1 (10 + 6 * X) (a 1 (10 + 6 * X) ^^^ ((1 : Int32) <<< (nI Y &&& 31)))) b) (by intro _ _ _; eq_refl) ?_
  refine fr_ldI (by rfl) (by rfl) (fx_inN (i := (10 + 6 * Y)) (by omega) (by omega)) ?_
  rw [show Int32.toNatClampNeg (nI (10 + 6 * Y)) = (10 + 6 * Y) from nI_clamp (by omega)]
  refine fr_s 4 (pc' := 65) (lc' := [(0, .ref 0), (1, .int (nI X)), (2, .int (nI Y)), (3, .int z)]) (stk' := [.int ((fm_u a 1 (10 + 6 * X) (a 1 (10 + 6 * X) ^^^ ((1 : Int32) <<< (nI Y &&& 31)))) 1 (10 + 6 * Y) ^^^ ((1 : Int32) <<< (nI X &&& 31))), .int (nI (10 + 6 * Y)), .ref 1]) (mem' := fm g tp bt (fm_u a 1 (10 + 6 * X) (a 1 (10 + 6 * X) ^^^ ((1 : Int32) <<< (nI Y &&& 31)))) b) (by intro _ _ _; eq_refl) ?_
  refine fr_stI (mem' := fm g tp bt (fm_u (fm_u a 1 (10 + 6 * X) (a 1 (10 + 6 * X) ^^^ ((1 : Int32) <<< (nI Y &&& 31)))) 1 (nI (10 + 6 * Y) : Int32).toNatClampNeg ((fm_u a 1 (10 + 6 * X) (a 1 (10 + 6 * X) ^^^ ((1 : Int32) <<< (nI Y &&& 31)))) 1 (10 + 6 * Y) ^^^ ((1 : Int32) <<< (nI X &&& 31)))) b) (by rfl) (by rfl) (fx_inN (i := (10 + 6 * Y)) (by omega) (by omega)) fm_si1 ?_
  rw [show Int32.toNatClampNeg (nI (10 + 6 * Y)) = (10 + 6 * Y) from nI_clamp (by omega)]
  refine fr_s 2 (pc' := 68) (lc' := [(0, .ref 0), (1, .int (nI X)), (2, .int (nI Y)), (3, .int z)]) (stk' := [.int 0, .ref 0]) (mem' := fm g tp bt (fm_u (fm_u a 1 (10 + 6 * X) (a 1 (10 + 6 * X) ^^^ ((1 : Int32) <<< (nI Y &&& 31)))) 1 (10 + 6 * Y) ((fm_u a 1 (10 + 6 * X) (a 1 (10 + 6 * X) ^^^ ((1 : Int32) <<< (nI Y &&& 31)))) 1 (10 + 6 * Y) ^^^ ((1 : Int32) <<< (nI X &&& 31)))) b) (by intro _ _ _; eq_refl) ?_
  refine fr_ivV ml_is0 (by omega) (by rfl) (by rfl) (by rfl) (by rfl) (by rfl) (by rfl) ?_
  exact fr_ret (by rfl) (by rfl) (by rfl)
theorem ml_walk {x : Int32} : fr_T 1 258 [.ref 0, .int x] (fm g tp bt a b) (some (.int (if inN (a 1 1) x then 1 else 0))) (fm g tp bt a b) := by
  refine fr_meth (by rfl) (by rfl) ?_
  refine fr_s 1 (pc' := 1) (lc' := [(0, .ref 0), (1, .int x)]) (stk' := [.int x]) (mem' := fm g tp bt a b) (by intro _ _ _; eq_refl) ?_
  refine fr_s 1 (pc' := cond (fx_cb .lt x 0) 18 4) (lc' := [(0, .ref 0), (1, .int x)]) (stk' := []) (mem' := fm g tp bt a b) (by intro _ _ _; eq_refl) ?_
  cases h1 : fx_cb .lt x 0
  · have p1 : (0 : Int) ≤ x.toInt := tc_ltF h1
    refine fr_s 4 (pc' := 10) (lc' := [(0, .ref 0), (1, .int x)]) (stk' := [.int 1, .ref 1, .int x]) (mem' := fm g tp bt a b) (by intro _ _ _; eq_refl) ?_
    refine fr_ldI (by rfl) (by rfl) (fx_inN (i := 1) (by omega) (by omega)) ?_
    rw [show Int32.toNatClampNeg (1) = 1 from rfl]
    refine fr_s 1 (pc' := cond (fx_cb .ge x (a 1 1)) 18 14) (lc' := [(0, .ref 0), (1, .int x)]) (stk' := []) (mem' := fm g tp bt a b) (by intro _ _ _; eq_refl) ?_
    cases h2 : fx_cb .ge x (a 1 1)
    · rw [if_pos (show inN (a 1 1) x from ⟨p1, tc_geF h2⟩)]
      refine fr_s 2 (pc' := 19) (lc' := [(0, .ref 0), (1, .int x)]) (stk' := [.int 1]) (mem' := fm g tp bt a b) (by intro _ _ _; eq_refl) ?_
      exact fr_ret (by rfl) (by rfl) (by rfl)
    · rw [if_neg (show ¬ inN (a 1 1) x from fun z => by have := z.2; have := tc_ge h2; omega)]
      refine fr_s 1 (pc' := 19) (lc' := [(0, .ref 0), (1, .int x)]) (stk' := [.int 0]) (mem' := fm g tp bt a b) (by intro _ _ _; eq_refl) ?_
      exact fr_ret (by rfl) (by rfl) (by rfl)
  · rw [if_neg (show ¬ inN (a 1 1) x from fun z => by have := z.1; have h : x.toInt < (0 : Int) := tc_lt h1; omega)]
    refine fr_s 1 (pc' := 19) (lc' := [(0, .ref 0), (1, .int x)]) (stk' := [.int 0]) (mem' := fm g tp bt a b) (by intro _ _ _; eq_refl) ?_
    exact fr_ret (by rfl) (by rfl) (by rfl)
def wgN (n x y : Int32) : Prop := inN n x ∧ 1 ≤ y.toInt ∧ y.toInt ≤ 99
theorem ml_weiF {x y : Int32} (h : ¬ wgN (a 1 1) x y) : fr_T 2 300 [.ref 0, .int x, .int y] (fm g tp bt a b) (some (.int 0)) (fm (upd g 2 1) tp bt a b) := by
  refine fr_meth (by rfl) (by rfl) ?_
  refine fr_s 2 (pc' := 2) (lc' := [(0, .ref 0), (1, .int x), (2, .int y)]) (stk' := [.int x, .ref 0]) (mem' := fm g tp bt a b) (by intro _ _ _; eq_refl) ?_
  refine fr_ivV ml_walk (by omega) (by rfl) (by rfl) (by rfl) (by rfl) (by rfl) (by rfl) ?_
  by_cases h1 : inN (a 1 1) x
  · rw [if_pos h1]
    refine fr_s 1 (pc' := cond (fx_cb .eq 1 0) 20 8) (lc' := [(0, .ref 0), (1, .int x), (2, .int y)]) (stk' := []) (mem' := fm g tp bt a b) (by intro _ _ _; eq_refl) ?_
    rw [show fx_cb .eq 1 0 = false from by decide]
    dsimp only [cond]
    refine fr_s 4 (pc' := 14) (lc' := [(0, .ref 0), (1, .int x), (2, .int y)]) (stk' := [.long 99, .long 1, .long y.toInt64]) (mem' := fm g tp bt a b) (by intro _ _ _; eq_refl) ?_
    obtain ⟨vF, memF, ⟨zF, hzF, hRF⟩, hfF⟩ := fr_isFrom (v := y.toInt64) (l := 1) (m := 99) (mem := fm g tp bt a b)
    cases hRF
    refine fr_ivS hfF (by omega) (by rfl) (by rfl) (by rfl) (by rfl) (by rfl) ?_
    rcases hzF with ⟨rfl, hn⟩ | ⟨rfl, q1, q2⟩
    · skip
      refine fr_s 1 (pc' := cond (fx_cb .ne 0 0) 26 20) (lc' := [(0, .ref 0), (1, .int x), (2, .int y)]) (stk' := []) (mem' := fm g tp bt a b) (by intro _ _ _; eq_refl) ?_
      rw [show fx_cb .ne 0 0 = false from by decide]
      dsimp only [cond]
      refine fr_s 2 (pc' := 22) (lc' := [(0, .ref 0), (1, .int x), (2, .int y)]) (stk' := [.int 1, .ref 0]) (mem' := fm g tp bt a b) (by intro _ _ _; eq_refl) ?_
      refine fr_ivV ml_is1 (by omega) (by rfl) (by rfl) (by rfl) (by rfl) (by rfl) (by rfl) ?_
      exact fr_ret (by rfl) (by rfl) (by rfl)
    · rw [Int32.toInt_toInt64] at q1 q2
      exact absurd ⟨h1, q1, q2⟩ h
  · rw [if_neg h1]
    refine fr_s 1 (pc' := cond (fx_cb .eq 0 0) 20 8) (lc' := [(0, .ref 0), (1, .int x), (2, .int y)]) (stk' := []) (mem' := fm g tp bt a b) (by intro _ _ _; eq_refl) ?_
    rw [show fx_cb .eq 0 0 = true from by decide]
    dsimp only [cond]
    refine fr_s 2 (pc' := 22) (lc' := [(0, .ref 0), (1, .int x), (2, .int y)]) (stk' := [.int 1, .ref 0]) (mem' := fm g tp bt a b) (by intro _ _ _; eq_refl) ?_
    refine fr_ivV ml_is1 (by omega) (by rfl) (by rfl) (by rfl) (by rfl) (by rfl) (by rfl) ?_
    exact fr_ret (by rfl) (by rfl) (by rfl)
theorem ml_weiT {X : Nat} {y : Int32} (hX : X < 8) (h : wgN (a 1 1) (nI X) y) : fr_T 2 300 [.ref 0, .int (nI X), .int y] (fm g tp bt a b) (some (.int 1)) (fm (upd g 2 0) tp bt (fm_u a 1 (278 + 5 * X) y) b) := by
  refine fr_meth (by rfl) (by rfl) ?_
  have e1 : 278 + 5 * nI X = nI (278 + 5 * X) := by
    rw [show (278 : Int32) = nI 278 from rfl, show (5 : Int32) = nI 5 from rfl, fm_mul, nI_add]
  refine fr_s 2 (pc' := 2) (lc' := [(0, .ref 0), (1, .int (nI X)), (2, .int y)]) (stk' := [.int (nI X), .ref 0]) (mem' := fm g tp bt a b) (by intro _ _ _; eq_refl) ?_
  refine fr_ivV ml_walk (by omega) (by rfl) (by rfl) (by rfl) (by rfl) (by rfl) (by rfl) ?_
  rw [if_pos h.1]
  refine fr_s 1 (pc' := cond (fx_cb .eq 1 0) 20 8) (lc' := [(0, .ref 0), (1, .int (nI X)), (2, .int y)]) (stk' := []) (mem' := fm g tp bt a b) (by intro _ _ _; eq_refl) ?_
  rw [show fx_cb .eq 1 0 = false from by decide]
  dsimp only [cond]
  refine fr_s 4 (pc' := 14) (lc' := [(0, .ref 0), (1, .int (nI X)), (2, .int y)]) (stk' := [.long 99, .long 1, .long y.toInt64]) (mem' := fm g tp bt a b) (by intro _ _ _; eq_refl) ?_
  obtain ⟨vF, memF, ⟨zF, hzF, hRF⟩, hfF⟩ := fr_isFrom (v := y.toInt64) (l := 1) (m := 99) (mem := fm g tp bt a b)
  cases hRF
  refine fr_ivS hfF (by omega) (by rfl) (by rfl) (by rfl) (by rfl) (by rfl) ?_
  rcases hzF with ⟨rfl, hn⟩ | ⟨rfl, q1, q2⟩
  · rw [Int32.toInt_toInt64] at hn
    exact absurd ⟨h.2.1, h.2.2⟩ hn
  · skip
    refine fr_s 1 (pc' := cond (fx_cb .ne 1 0) 26 20) (lc' := [(0, .ref 0), (1, .int (nI X)), (2, .int y)]) (stk' := []) (mem' := fm g tp bt a b) (by intro _ _ _; eq_refl) ?_
    rw [show fx_cb .ne 1 0 = true from by decide]
    dsimp only [cond]
    refine fr_s 3 (pc' := 31) (lc' := [(0, .ref 0), (1, .int (nI X)), (2, .int y)]) (stk' := [.int (nI X), .ref 1]) (mem' := fm g tp bt a b) (by intro _ _ _; eq_refl) ?_
    refine fr_ivS fr_walkerRow (by omega) (by rfl) (by rfl) (by rfl) (by rfl) (by rfl) ?_
    rw [e1]
    refine fr_s 1 (pc' := 35) (lc' := [(0, .ref 0), (1, .int (nI X)), (2, .int y)]) (stk' := [.int y, .int (nI (278 + 5 * X)), .ref 1]) (mem' := fm g tp bt a b) (by intro _ _ _; eq_refl) ?_
    refine fr_stI (mem' := fm g tp bt (fm_u a 1 (nI (278 + 5 * X) : Int32).toNatClampNeg y) b) (by rfl) (by rfl) (fx_inN (i := 278 + 5 * X) (by omega) (by omega)) fm_si1 ?_
    rw [show Int32.toNatClampNeg (nI (278 + 5 * X)) = 278 + 5 * X from nI_clamp (by omega)]
    refine fr_s 2 (pc' := 38) (lc' := [(0, .ref 0), (1, .int (nI X)), (2, .int y)]) (stk' := [.int 0, .ref 0]) (mem' := fm g tp bt (fm_u a 1 (278 + 5 * X) y) b) (by intro _ _ _; eq_refl) ?_
    refine fr_ivV ml_is0 (by omega) (by rfl) (by rfl) (by rfl) (by rfl) (by rfl) (by rfl) ?_
    exact fr_ret (by rfl) (by rfl) (by rfl)
end MEX
end MH23_1
section MH23_2
/-! ===== the class: way, beside, hew, weigh, exact ===== -/
section CEX
variable {g : Nat → Nat → Int32} {l : Nat → Nat → Int64} {a : Nat → Nat → Int32} {b : Nat → Nat → Int64} {R : fx_M}
theorem hl_cell {c : Int32} : hr_T 1 34 [.ref 15, .int c] (cm g l a b R) (some (.int (if inN (g 15 8) c then 1 else 0))) (cm g l a b R) := by
  refine hr_meth (by rfl) (by rfl) ?_
  refine hr_s 1 (pc' := 1) (lc' := [(0, .ref 15), (1, .int c)]) (stk' := [.int c]) (mem' := cm g l a b R) (by intro _ _ _; eq_refl) ?_
  refine hr_s 1 (pc' := cond (fx_cb .lt c 0) 16 4) (lc' := [(0, .ref 15), (1, .int c)]) (stk' := []) (mem' := cm g l a b R) (by intro _ _ _; eq_refl) ?_
  cases h1 : fx_cb .lt c 0
  · have p1 : (0 : Int) ≤ c.toInt := tc_ltF h1
    refine hr_s 3 (pc' := 9) (lc' := [(0, .ref 15), (1, .int c)]) (stk' := [.int (g 15 8), .int c]) (mem' := cm g l a b R) (by intro _ _ _; eq_refl) ?_
    refine hr_s 1 (pc' := cond (fx_cb .ge c (g 15 8)) 16 12) (lc' := [(0, .ref 15), (1, .int c)]) (stk' := []) (mem' := cm g l a b R) (by intro _ _ _; eq_refl) ?_
    cases h2 : fx_cb .ge c (g 15 8)
    · rw [if_pos (show inN (g 15 8) c from ⟨p1, tc_geF h2⟩)]
      refine hr_s 2 (pc' := 17) (lc' := [(0, .ref 15), (1, .int c)]) (stk' := [.int 1]) (mem' := cm g l a b R) (by intro _ _ _; eq_refl) ?_
      exact hr_ret (by rfl) (by rfl) (by rfl)
    · rw [if_neg (show ¬ inN (g 15 8) c from fun z => by have := z.2; have := tc_ge h2; omega)]
      refine hr_s 1 (pc' := 17) (lc' := [(0, .ref 15), (1, .int c)]) (stk' := [.int 0]) (mem' := cm g l a b R) (by intro _ _ _; eq_refl) ?_
      exact hr_ret (by rfl) (by rfl) (by rfl)
  · rw [if_neg (show ¬ inN (g 15 8) c from fun z => by have := z.1; have h : c.toInt < (0 : Int) := tc_lt h1; omega)]
    refine hr_s 1 (pc' := 17) (lc' := [(0, .ref 15), (1, .int c)]) (stk' := [.int 0]) (mem' := cm g l a b R) (by intro _ _ _; eq_refl) ?_
    exact hr_ret (by rfl) (by rfl) (by rfl)
theorem hl_has {c : Int32} : hr_T 1 3 [.ref 26, .int c] (cm g l a b R) (some (.int (if inN (g 26 7) c then 1 else 0))) (cm g l a b R) := by
  refine hr_meth (by rfl) (by rfl) ?_
  refine hr_s 1 (pc' := 1) (lc' := [(0, .ref 26), (1, .int c)]) (stk' := [.int c]) (mem' := cm g l a b R) (by intro _ _ _; eq_refl) ?_
  refine hr_s 1 (pc' := cond (fx_cb .lt c 0) 16 4) (lc' := [(0, .ref 26), (1, .int c)]) (stk' := []) (mem' := cm g l a b R) (by intro _ _ _; eq_refl) ?_
  cases h1 : fx_cb .lt c 0
  · have p1 : (0 : Int) ≤ c.toInt := tc_ltF h1
    refine hr_s 3 (pc' := 9) (lc' := [(0, .ref 26), (1, .int c)]) (stk' := [.int (g 26 7), .int c]) (mem' := cm g l a b R) (by intro _ _ _; eq_refl) ?_
    refine hr_s 1 (pc' := cond (fx_cb .ge c (g 26 7)) 16 12) (lc' := [(0, .ref 26), (1, .int c)]) (stk' := []) (mem' := cm g l a b R) (by intro _ _ _; eq_refl) ?_
    cases h2 : fx_cb .ge c (g 26 7)
    · rw [if_pos (show inN (g 26 7) c from ⟨p1, tc_geF h2⟩)]
      refine hr_s 2 (pc' := 17) (lc' := [(0, .ref 26), (1, .int c)]) (stk' := [.int 1]) (mem' := cm g l a b R) (by intro _ _ _; eq_refl) ?_
      exact hr_ret (by rfl) (by rfl) (by rfl)
    · rw [if_neg (show ¬ inN (g 26 7) c from fun z => by have := z.2; have := tc_ge h2; omega)]
      refine hr_s 1 (pc' := 17) (lc' := [(0, .ref 26), (1, .int c)]) (stk' := [.int 0]) (mem' := cm g l a b R) (by intro _ _ _; eq_refl) ?_
      exact hr_ret (by rfl) (by rfl) (by rfl)
  · rw [if_neg (show ¬ inN (g 26 7) c from fun z => by have := z.1; have h : c.toInt < (0 : Int) := tc_lt h1; omega)]
    refine hr_s 1 (pc' := 17) (lc' := [(0, .ref 26), (1, .int c)]) (stk' := [.int 0]) (mem' := cm g l a b R) (by intro _ _ _; eq_refl) ?_
    exact hr_ret (by rfl) (by rfl) (by rfl)
theorem hl_two {x y : Int32} : hr_T 2 37 [.ref 15, .int x, .int y] (cm g l a b R) (some (.int (if twoN (g 15 8) x y then 1 else 0))) (cm g l a b R) := by
  refine hr_meth (by rfl) (by rfl) ?_
  refine hr_s 2 (pc' := 2) (lc' := [(0, .ref 15), (1, .int x), (2, .int y)]) (stk' := [.int x, .ref 15]) (mem' := cm g l a b R) (by intro _ _ _; eq_refl) ?_
  refine hr_ivV hl_cell (by omega) (by rfl) (by rfl) (by rfl) (by rfl) (by rfl) (by rfl) ?_
  by_cases h1 : inN (g 15 8) x
  · rw [if_pos h1]
    refine hr_s 1 (pc' := cond (fx_cb .eq 1 0) 25 8) (lc' := [(0, .ref 15), (1, .int x), (2, .int y)]) (stk' := []) (mem' := cm g l a b R) (by intro _ _ _; eq_refl) ?_
    rw [show fx_cb .eq 1 0 = false from by decide]
    dsimp only [cond]
    refine hr_s 2 (pc' := 10) (lc' := [(0, .ref 15), (1, .int x), (2, .int y)]) (stk' := [.int y, .ref 15]) (mem' := cm g l a b R) (by intro _ _ _; eq_refl) ?_
    refine hr_ivV hl_cell (by omega) (by rfl) (by rfl) (by rfl) (by rfl) (by rfl) (by rfl) ?_
    by_cases h2 : inN (g 15 8) y
    · rw [if_pos h2]
      refine hr_s 1 (pc' := cond (fx_cb .eq 1 0) 25 16) (lc' := [(0, .ref 15), (1, .int x), (2, .int y)]) (stk' := []) (mem' := cm g l a b R) (by intro _ _ _; eq_refl) ?_
      rw [show fx_cb .eq 1 0 = false from by decide]
      dsimp only [cond]
      refine hr_s 2 (pc' := 18) (lc' := [(0, .ref 15), (1, .int x), (2, .int y)]) (stk' := [.int y, .int x]) (mem' := cm g l a b R) (by intro _ _ _; eq_refl) ?_
      by_cases h3 : x = y
      · rw [if_neg (show ¬ twoN (g 15 8) x y from fun z => z.2.2 h3)]
        refine hr_s 1 (pc' := cond (fx_cb .eq x y) 25 21) (lc' := [(0, .ref 15), (1, .int x), (2, .int y)]) (stk' := []) (mem' := cm g l a b R) (by intro _ _ _; eq_refl) ?_
        rw [show fx_cb .eq x y = true from decide_eq_true h3]
        dsimp only [cond]
        refine hr_s 1 (pc' := 26) (lc' := [(0, .ref 15), (1, .int x), (2, .int y)]) (stk' := [.int 0]) (mem' := cm g l a b R) (by intro _ _ _; eq_refl) ?_
        exact hr_ret (by rfl) (by rfl) (by rfl)
      · rw [if_pos (show twoN (g 15 8) x y from ⟨h1, h2, h3⟩)]
        refine hr_s 1 (pc' := cond (fx_cb .eq x y) 25 21) (lc' := [(0, .ref 15), (1, .int x), (2, .int y)]) (stk' := []) (mem' := cm g l a b R) (by intro _ _ _; eq_refl) ?_
        rw [show fx_cb .eq x y = false from decide_eq_false h3]
        dsimp only [cond]
        refine hr_s 2 (pc' := 26) (lc' := [(0, .ref 15), (1, .int x), (2, .int y)]) (stk' := [.int 1]) (mem' := cm g l a b R) (by intro _ _ _; eq_refl) ?_
        exact hr_ret (by rfl) (by rfl) (by rfl)
    · rw [if_neg h2, if_neg (show ¬ twoN (g 15 8) x y from fun z => h2 z.2.1)]
      refine hr_s 1 (pc' := cond (fx_cb .eq 0 0) 25 16) (lc' := [(0, .ref 15), (1, .int x), (2, .int y)]) (stk' := []) (mem' := cm g l a b R) (by intro _ _ _; eq_refl) ?_
      rw [show fx_cb .eq 0 0 = true from by decide]
      dsimp only [cond]
      refine hr_s 1 (pc' := 26) (lc' := [(0, .ref 15), (1, .int x), (2, .int y)]) (stk' := [.int 0]) (mem' := cm g l a b R) (by intro _ _ _; eq_refl) ?_
      exact hr_ret (by rfl) (by rfl) (by rfl)
  · rw [if_neg h1, if_neg (show ¬ twoN (g 15 8) x y from fun z => h1 z.1)]
    refine hr_s 1 (pc' := cond (fx_cb .eq 0 0) 25 8) (lc' := [(0, .ref 15), (1, .int x), (2, .int y)]) (stk' := []) (mem' := cm g l a b R) (by intro _ _ _; eq_refl) ?_
    rw [show fx_cb .eq 0 0 = true from by decide]
    dsimp only [cond]
    refine hr_s 1 (pc' := 26) (lc' := [(0, .ref 15), (1, .int x), (2, .int y)]) (stk' := [.int 0]) (mem' := cm g l a b R) (by intro _ _ _; eq_refl) ?_
    exact hr_ret (by rfl) (by rfl) (by rfl)
theorem hl_wayF {x y : Int32} (h : ¬ twoN (g 15 8) x y) : hr_T 3 142 [.ref 0, .int x, .int y] (cm g l a b R) (some (.int (-1))) (cm (fm_u g 0 0 1) l a b R) := by
  refine hr_meth (by rfl) (by rfl) ?_
  refine hr_s 4 (pc' := 6) (lc' := [(0, .ref 0), (1, .int x), (2, .int y)]) (stk' := [.int y, .int x, .ref 15]) (mem' := cm g l a b R) (by intro _ _ _; eq_refl) ?_
  refine hr_ivV hl_two (by omega) (by rfl) (by rfl) (by rfl) (by rfl) (by rfl) (by rfl) ?_
  rw [if_neg h]
  refine hr_s 1 (pc' := cond (fx_cb .ne 0 0) 18 12) (lc' := [(0, .ref 0), (1, .int x), (2, .int y)]) (stk' := []) (mem' := cm g l a b R) (by intro _ _ _; eq_refl) ?_
  rw [show fx_cb .ne 0 0 = false from by decide]
  dsimp only [cond]
  refine hr_s 2 (pc' := 14) (lc' := [(0, .ref 0), (1, .int x), (2, .int y)]) (stk' := [.int 1, .ref 0]) (mem' := cm g l a b R) (by intro _ _ _; eq_refl) ?_
  refine hr_ivV ha_refuse (by omega) (by rfl) (by rfl) (by rfl) (by rfl) (by rfl) (by rfl) ?_
  exact hr_ret (by rfl) (by rfl) (by rfl)
theorem hl_wayT {X : Nat} {y : Int32} (hX : X < 10) (h : twoN (g 15 8) (nI X) y) : hr_T 3 142 [.ref 0, .int (nI X), .int y] (cm g l a b R) (some (.int ((a 17 X >>> (y &&& 31)) &&& 1))) (cm (fm_u g 0 0 0) l a b R) := by
  refine hr_meth (by rfl) (by rfl) ?_
  refine hr_s 4 (pc' := 6) (lc' := [(0, .ref 0), (1, .int (nI X)), (2, .int y)]) (stk' := [.int y, .int (nI X), .ref 15]) (mem' := cm g l a b R) (by intro _ _ _; eq_refl) ?_
  refine hr_ivV hl_two (by omega) (by rfl) (by rfl) (by rfl) (by rfl) (by rfl) (by rfl) ?_
  rw [if_pos h]
  refine hr_s 1 (pc' := cond (fx_cb .ne 1 0) 18 12) (lc' := [(0, .ref 0), (1, .int (nI X)), (2, .int y)]) (stk' := []) (mem' := cm g l a b R) (by intro _ _ _; eq_refl) ?_
  rw [show fx_cb .ne 1 0 = true from by decide]
  dsimp only [cond]
  refine hr_s 5 (pc' := 27) (lc' := [(0, .ref 0), (1, .int (nI X)), (2, .int y)]) (stk' := [.int (nI X), .ref 17, .ref 0]) (mem' := cm g l a b R) (by intro _ _ _; eq_refl) ?_
  refine hr_ldI (by rfl) (by rfl) (fx_inN (i := X) (by omega) (by omega)) ?_
  rw [show Int32.toNatClampNeg (nI X) = X from nI_clamp (by omega)]
  refine hr_s 4 (pc' := 32) (lc' := [(0, .ref 0), (1, .int (nI X)), (2, .int y)]) (stk' := [.int ((a 17 X >>> (y &&& 31)) &&& 1), .ref 0]) (mem' := cm g l a b R) (by intro _ _ _; eq_refl) ?_
  refine hr_ivV ha_answer (by omega) (by rfl) (by rfl) (by rfl) (by rfl) (by rfl) (by rfl) ?_
  exact hr_ret (by rfl) (by rfl) (by rfl)
theorem hl_besF {x y : Int32} (h : ¬ twoN (g 15 8) x y) : hr_T 3 143 [.ref 0, .int x, .int y] (cm g l a b R) (some (.int (-1))) (cm (fm_u g 0 0 1) l a b R) := by
  refine hr_meth (by rfl) (by rfl) ?_
  refine hr_s 4 (pc' := 6) (lc' := [(0, .ref 0), (1, .int x), (2, .int y)]) (stk' := [.int y, .int x, .ref 15]) (mem' := cm g l a b R) (by intro _ _ _; eq_refl) ?_
  refine hr_ivV hl_two (by omega) (by rfl) (by rfl) (by rfl) (by rfl) (by rfl) (by rfl) ?_
  rw [if_neg h]
  refine hr_s 1 (pc' := cond (fx_cb .ne 0 0) 18 12) (lc' := [(0, .ref 0), (1, .int x), (2, .int y)]) (stk' := []) (mem' := cm g l a b R) (by intro _ _ _; eq_refl) ?_
  rw [show fx_cb .ne 0 0 = false from by decide]
  dsimp only [cond]
  refine hr_s 2 (pc' := 14) (lc' := [(0, .ref 0), (1, .int x), (2, .int y)]) (stk' := [.int 1, .ref 0]) (mem' := cm g l a b R) (by intro _ _ _; eq_refl) ?_
  refine hr_ivV ha_refuse (by omega) (by rfl) (by rfl) (by rfl) (by rfl) (by rfl) (by rfl) ?_
  exact hr_ret (by rfl) (by rfl) (by rfl)
theorem hl_besT {X : Nat} {y : Int32} (hX : X < 10) (h : twoN (g 15 8) (nI X) y) : hr_T 3 143 [.ref 0, .int (nI X), .int y] (cm g l a b R) (some (.int ((a 18 X >>> (y &&& 31)) &&& 1))) (cm (fm_u g 0 0 0) l a b R) := by
  refine hr_meth (by rfl) (by rfl) ?_
  refine hr_s 4 (pc' := 6) (lc' := [(0, .ref 0), (1, .int (nI X)), (2, .int y)]) (stk' := [.int y, .int (nI X), .ref 15]) (mem' := cm g l a b R) (by intro _ _ _; eq_refl) ?_
  refine hr_ivV hl_two (by omega) (by rfl) (by rfl) (by rfl) (by rfl) (by rfl) (by rfl) ?_
  rw [if_pos h]
  refine hr_s 1 (pc' := cond (fx_cb .ne 1 0) 18 12) (lc' := [(0, .ref 0), (1, .int (nI X)), (2, .int y)]) (stk' := []) (mem' := cm g l a b R) (by intro _ _ _; eq_refl) ?_
  rw [show fx_cb .ne 1 0 = true from by decide]
  dsimp only [cond]
  refine hr_s 5 (pc' := 27) (lc' := [(0, .ref 0), (1, .int (nI X)), (2, .int y)]) (stk' := [.int (nI X), .ref 18, .ref 0]) (mem' := cm g l a b R) (by intro _ _ _; eq_refl) ?_
  refine hr_ldI (by rfl) (by rfl) (fx_inN (i := X) (by omega) (by omega)) ?_
  rw [show Int32.toNatClampNeg (nI X) = X from nI_clamp (by omega)]
  refine hr_s 4 (pc' := 32) (lc' := [(0, .ref 0), (1, .int (nI X)), (2, .int y)]) (stk' := [.int ((a 18 X >>> (y &&& 31)) &&& 1), .ref 0]) (mem' := cm g l a b R) (by intro _ _ _; eq_refl) ?_
  refine hr_ivV ha_answer (by omega) (by rfl) (by rfl) (by rfl) (by rfl) (by rfl) (by rfl) ?_
  exact hr_ret (by rfl) (by rfl) (by rfl)
theorem hl_deny {x : Int32} : hr_T 1 189 [.ref 0, .int x] (cm g l a b R) (some (.int 0)) (cm (fm_u g 0 0 x) l a b R) := by
  refine hr_meth (by rfl) (by rfl) ?_
  refine hr_s 4 (pc' := 6) (lc' := [(0, .ref 0), (1, .int x)]) (stk' := [.int 0]) (mem' := cm (fm_u g 0 0 x) l a b R) (by intro _ _ _; eq_refl) ?_
  exact hr_ret (by rfl) (by rfl) (by rfl)
theorem hl_agree : hr_T 1 188 [.ref 0] (cm g l a b R) (some (.int 1)) (cm (fm_u g 0 0 0) l a b R) := by
  refine hr_meth (by rfl) (by rfl) ?_
  refine hr_s 4 (pc' := 6) (lc' := [(0, .ref 0)]) (stk' := [.int 1]) (mem' := cm (fm_u g 0 0 0) l a b R) (by intro _ _ _; eq_refl) ?_
  exact hr_ret (by rfl) (by rfl) (by rfl)
theorem hl_hewF {x y z : Int32} (h : ¬ twoN (g 15 8) x y) : hr_T 3 154 [.ref 0, .int x, .int y, .int z] (cm g l a b R) (some (.int 0)) (cm (fm_u g 0 0 1) l a b R) := by
  refine hr_meth (by rfl) (by rfl) ?_
  refine hr_s 4 (pc' := 6) (lc' := [(0, .ref 0), (1, .int x), (2, .int y), (3, .int z)]) (stk' := [.int y, .int x, .ref 15]) (mem' := cm g l a b R) (by intro _ _ _; eq_refl) ?_
  refine hr_ivV hl_two (by omega) (by rfl) (by rfl) (by rfl) (by rfl) (by rfl) (by rfl) ?_
  rw [if_neg h]
  refine hr_s 1 (pc' := cond (fx_cb .ne 0 0) 18 12) (lc' := [(0, .ref 0), (1, .int x), (2, .int y), (3, .int z)]) (stk' := []) (mem' := cm g l a b R) (by intro _ _ _; eq_refl) ?_
  rw [show fx_cb .ne 0 0 = false from by decide]
  dsimp only [cond]
  refine hr_s 2 (pc' := 14) (lc' := [(0, .ref 0), (1, .int x), (2, .int y), (3, .int z)]) (stk' := [.int 1, .ref 0]) (mem' := cm g l a b R) (by intro _ _ _; eq_refl) ?_
  refine hr_ivV hl_deny (by omega) (by rfl) (by rfl) (by rfl) (by rfl) (by rfl) (by rfl) ?_
  exact hr_ret (by rfl) (by rfl) (by rfl)
theorem hl_hewE {X Y : Nat} {z : Int32} (hX : X < 10) (hY : Y < 10) (h : twoN (g 15 8) (nI X) (nI Y)) (hz : ((a 17 X >>> (nI Y &&& 31)) &&& 1) = z) : hr_T 3 154 [.ref 0, .int (nI X), .int (nI Y), .int z] (cm g l a b R) (some (.int 0)) (cm (fm_u g 0 0 7) l a b R) := by
  refine hr_meth (by rfl) (by rfl) ?_
  refine hr_s 4 (pc' := 6) (lc' := [(0, .ref 0), (1, .int (nI X)), (2, .int (nI Y)), (3, .int z)]) (stk' := [.int (nI Y), .int (nI X), .ref 15]) (mem' := cm g l a b R) (by intro _ _ _; eq_refl) ?_
  refine hr_ivV hl_two (by omega) (by rfl) (by rfl) (by rfl) (by rfl) (by rfl) (by rfl) ?_
  rw [if_pos h]
  refine hr_s 1 (pc' := cond (fx_cb .ne 1 0) 18 12) (lc' := [(0, .ref 0), (1, .int (nI X)), (2, .int (nI Y)), (3, .int z)]) (stk' := []) (mem' := cm g l a b R) (by intro _ _ _; eq_refl) ?_
  rw [show fx_cb .ne 1 0 = true from by decide]
  dsimp only [cond]
  refine hr_s 4 (pc' := 26) (lc' := [(0, .ref 0), (1, .int (nI X)), (2, .int (nI Y)), (3, .int z)]) (stk' := [.int (nI X), .ref 17]) (mem' := cm g l a b R) (by intro _ _ _; eq_refl) ?_
  refine hr_ldI (by rfl) (by rfl) (fx_inN (i := X) (by omega) (by omega)) ?_
  rw [show Int32.toNatClampNeg (nI X) = X from nI_clamp (by omega)]
  refine hr_s 4 (pc' := 31) (lc' := [(0, .ref 0), (1, .int (nI X)), (2, .int (nI Y)), (3, .int z)]) (stk' := [.int ((a 17 X >>> (nI Y &&& 31)) &&& 1)]) (mem' := cm g l a b R) (by intro _ _ _; eq_refl) ?_
  have e0 : (if ((a 17 X >>> (nI Y &&& 31)) &&& 1) = 0 then (0 : Int32) else 1) = ((a 17 X >>> (nI Y &&& 31)) &&& 1) := by
    rw [bi_v _ (show Y < 32 by omega)]
    by_cases e : (a 17 X).toBitVec.getLsbD Y = true
    · rw [if_pos e]; rfl
    · rw [if_neg e]; rfl
  by_cases e : ((a 17 X >>> (nI Y &&& 31)) &&& 1) = 0
  · rw [e] at hz
    subst hz
    refine hr_s 1 (pc' := cond (fx_cb .eq ((a 17 X >>> (nI Y &&& 31)) &&& 1) 0) 38 34) (lc' := [(0, .ref 0), (1, .int (nI X)), (2, .int (nI Y)), (3, .int 0)]) (stk' := []) (mem' := cm g l a b R) (by intro _ _ _; eq_refl) ?_
    rw [show fx_cb .eq ((a 17 X >>> (nI Y &&& 31)) &&& 1) 0 = true from decide_eq_true e]
    dsimp only [cond]
    refine hr_s 1 (pc' := 39) (lc' := [(0, .ref 0), (1, .int (nI X)), (2, .int (nI Y)), (3, .int 0)]) (stk' := [.int 0]) (mem' := cm g l a b R) (by intro _ _ _; eq_refl) ?_
    refine hr_s 3 (pc' := 44) (lc' := [(4, .int 0), (0, .ref 0), (1, .int (nI X)), (2, .int (nI Y)), (3, .int 0)]) (stk' := [.int 0, .int 0]) (mem' := cm g l a b R) (by intro _ _ _; eq_refl) ?_
    refine hr_s 1 (pc' := cond (fx_cb .ne 0 0) 54 47) (lc' := [(4, .int 0), (0, .ref 0), (1, .int (nI X)), (2, .int (nI Y)), (3, .int 0)]) (stk' := []) (mem' := cm g l a b R) (by intro _ _ _; eq_refl) ?_
    rw [show fx_cb .ne 0 0 = false from by decide]
    dsimp only [cond]
    refine hr_s 2 (pc' := 50) (lc' := [(4, .int 0), (0, .ref 0), (1, .int (nI X)), (2, .int (nI Y)), (3, .int 0)]) (stk' := [.int 7, .ref 0]) (mem' := cm g l a b R) (by intro _ _ _; eq_refl) ?_
    refine hr_ivV hl_deny (by omega) (by rfl) (by rfl) (by rfl) (by rfl) (by rfl) (by rfl) ?_
    exact hr_ret (by rfl) (by rfl) (by rfl)
  · have e1 : ((a 17 X >>> (nI Y &&& 31)) &&& 1) = 1 := by rw [if_neg e] at e0; exact e0.symm
    rw [e1] at hz
    subst hz
    refine hr_s 1 (pc' := cond (fx_cb .eq ((a 17 X >>> (nI Y &&& 31)) &&& 1) 0) 38 34) (lc' := [(0, .ref 0), (1, .int (nI X)), (2, .int (nI Y)), (3, .int 1)]) (stk' := []) (mem' := cm g l a b R) (by intro _ _ _; eq_refl) ?_
    rw [show fx_cb .eq ((a 17 X >>> (nI Y &&& 31)) &&& 1) 0 = false from decide_eq_false e]
    dsimp only [cond]
    refine hr_s 2 (pc' := 39) (lc' := [(0, .ref 0), (1, .int (nI X)), (2, .int (nI Y)), (3, .int 1)]) (stk' := [.int 1]) (mem' := cm g l a b R) (by intro _ _ _; eq_refl) ?_
    refine hr_s 3 (pc' := 44) (lc' := [(4, .int 1), (0, .ref 0), (1, .int (nI X)), (2, .int (nI Y)), (3, .int 1)]) (stk' := [.int 1, .int 1]) (mem' := cm g l a b R) (by intro _ _ _; eq_refl) ?_
    refine hr_s 1 (pc' := cond (fx_cb .ne 1 1) 54 47) (lc' := [(4, .int 1), (0, .ref 0), (1, .int (nI X)), (2, .int (nI Y)), (3, .int 1)]) (stk' := []) (mem' := cm g l a b R) (by intro _ _ _; eq_refl) ?_
    rw [show fx_cb .ne 1 1 = false from by decide]
    dsimp only [cond]
    refine hr_s 2 (pc' := 50) (lc' := [(4, .int 1), (0, .ref 0), (1, .int (nI X)), (2, .int (nI Y)), (3, .int 1)]) (stk' := [.int 7, .ref 0]) (mem' := cm g l a b R) (by intro _ _ _; eq_refl) ?_
    refine hr_ivV hl_deny (by omega) (by rfl) (by rfl) (by rfl) (by rfl) (by rfl) (by rfl) ?_
    exact hr_ret (by rfl) (by rfl) (by rfl)
theorem hl_hewT {X Y : Nat} {z : Int32} (hX : X < 10) (hY : Y < 10) (h : twoN (g 15 8) (nI X) (nI Y)) (hz : ¬ ((a 17 X >>> (nI Y &&& 31)) &&& 1) = z) : hr_T 3 154 [.ref 0, .int (nI X), .int (nI Y), .int z] (cm g l a b R) (some (.int 1)) (cm (fm_u g 0 0 0) l (fm_u (fm_u a 17 X (a 17 X ^^^ ((1 : Int32) <<< (nI Y &&& 31)))) 17 Y ((fm_u a 17 X (a 17 X ^^^ ((1 : Int32) <<< (nI Y &&& 31)))) 17 Y ^^^ ((1 : Int32) <<< (nI X &&& 31)))) b R) := by
  refine hr_meth (by rfl) (by rfl) ?_
  refine hr_s 4 (pc' := 6) (lc' := [(0, .ref 0), (1, .int (nI X)), (2, .int (nI Y)), (3, .int z)]) (stk' := [.int (nI Y), .int (nI X), .ref 15]) (mem' := cm g l a b R) (by intro _ _ _; eq_refl) ?_
  refine hr_ivV hl_two (by omega) (by rfl) (by rfl) (by rfl) (by rfl) (by rfl) (by rfl) ?_
  rw [if_pos h]
  refine hr_s 1 (pc' := cond (fx_cb .ne 1 0) 18 12) (lc' := [(0, .ref 0), (1, .int (nI X)), (2, .int (nI Y)), (3, .int z)]) (stk' := []) (mem' := cm g l a b R) (by intro _ _ _; eq_refl) ?_
  rw [show fx_cb .ne 1 0 = true from by decide]
  dsimp only [cond]
  refine hr_s 4 (pc' := 26) (lc' := [(0, .ref 0), (1, .int (nI X)), (2, .int (nI Y)), (3, .int z)]) (stk' := [.int (nI X), .ref 17]) (mem' := cm g l a b R) (by intro _ _ _; eq_refl) ?_
  refine hr_ldI (by rfl) (by rfl) (fx_inN (i := X) (by omega) (by omega)) ?_
  rw [show Int32.toNatClampNeg (nI X) = X from nI_clamp (by omega)]
  refine hr_s 4 (pc' := 31) (lc' := [(0, .ref 0), (1, .int (nI X)), (2, .int (nI Y)), (3, .int z)]) (stk' := [.int ((a 17 X >>> (nI Y &&& 31)) &&& 1)]) (mem' := cm g l a b R) (by intro _ _ _; eq_refl) ?_
  have e0 : (if ((a 17 X >>> (nI Y &&& 31)) &&& 1) = 0 then (0 : Int32) else 1) = ((a 17 X >>> (nI Y &&& 31)) &&& 1) := by
    rw [bi_v _ (show Y < 32 by omega)]
    by_cases e : (a 17 X).toBitVec.getLsbD Y = true
    · rw [if_pos e]; rfl
    · rw [if_neg e]; rfl
  have rest : ∀ v : Int32, hr_R 2 gk_m154 54 [(4, .int v), (0, .ref 0), (1, .int (nI X)), (2, .int (nI Y)), (3, .int z)] [] (cm g l a b R) (some (.int 1), cm (fm_u g 0 0 0) l (fm_u (fm_u a 17 X (a 17 X ^^^ ((1 : Int32) <<< (nI Y &&& 31)))) 17 Y ((fm_u a 17 X (a 17 X ^^^ ((1 : Int32) <<< (nI Y &&& 31)))) 17 Y ^^^ ((1 : Int32) <<< (nI X &&& 31)))) b R) := fun v => by
    refine hr_s 4 (pc' := 62) (lc' := [(4, .int v), (0, .ref 0), (1, .int (nI X)), (2, .int (nI Y)), (3, .int z)]) (stk' := [.int (nI X), .ref 17]) (mem' := cm g l a b R) (by intro _ _ _; eq_refl) ?_
    refine hr_s 1 (pc' := 63) (lc' := [(4, .int v), (0, .ref 0), (1, .int (nI X)), (2, .int (nI Y)), (3, .int z)]) (stk' := [.int (nI X), .ref 17, .int (nI X), .ref 17]) (mem' := cm g l a b R) (by intro _ _ _; eq_refl) ?_
    refine hr_ldI (by rfl) (by rfl) (fx_inN (i := X) (by omega) (by omega)) ?_
    rw [show Int32.toNatClampNeg (nI X) = X from nI_clamp (by omega)]
    refine hr_s 4 (pc' := 68) (lc' := [(4, .int v), (0, .ref 0), (1, .int (nI X)), (2, .int (nI Y)), (3, .int z)]) (stk' := [.int (a 17 X ^^^ ((1 : Int32) <<< (nI Y &&& 31))), .int (nI X), .ref 17]) (mem' := cm g l a b R) (by intro _ _ _; eq_refl) ?_
    refine hr_stI (mem' := cm g l (fm_u a 17 (nI X : Int32).toNatClampNeg (a 17 X ^^^ ((1 : Int32) <<< (nI Y &&& 31)))) b R) (by rfl) (by rfl) (fx_inN (i := X) (by omega) (by omega)) cm_si17 ?_
    rw [show Int32.toNatClampNeg (nI X) = X from nI_clamp (by omega)]
    refine hr_s 4 (pc' := 77) (lc' := [(4, .int v), (0, .ref 0), (1, .int (nI X)), (2, .int (nI Y)), (3, .int z)]) (stk' := [.int (nI Y), .ref 17]) (mem' := cm g l (fm_u a 17 X (a 17 X ^^^ ((1 : Int32) <<< (nI Y &&& 31)))) b R) (by intro _ _ _; eq_refl) ?_
    refine hr_s 1 (pc' := 78) (lc' := [(4, .int v), (0, .ref 0), (1, .int (nI X)), (2, .int (nI Y)), (3, .int z)]) (stk' := [.int (nI Y), .ref 17, .int (nI Y), .ref 17]) (mem' := cm g l (fm_u a 17 X (a 17 X ^^^ ((1 : Int32) <<< (nI Y &&& 31)))) b R) (by intro _ _ _; eq_refl) ?_
    refine hr_ldI (by rfl) (by rfl) (fx_inN (i := Y) (by omega) (by omega)) ?_
    rw [show Int32.toNatClampNeg (nI Y) = Y from nI_clamp (by omega)]
    refine hr_s 4 (pc' := 83) (lc' := [(4, .int v), (0, .ref 0), (1, .int (nI X)), (2, .int (nI Y)), (3, .int z)]) (stk' := [.int ((fm_u a 17 X (a 17 X ^^^ ((1 : Int32) <<< (nI Y &&& 31)))) 17 Y ^^^ ((1 : Int32) <<< (nI X &&& 31))), .int (nI Y), .ref 17]) (mem' := cm g l (fm_u a 17 X (a 17 X ^^^ ((1 : Int32) <<< (nI Y &&& 31)))) b R) (by intro _ _ _; eq_refl) ?_
    refine hr_stI (mem' := cm g l (fm_u (fm_u a 17 X (a 17 X ^^^ ((1 : Int32) <<< (nI Y &&& 31)))) 17 (nI Y : Int32).toNatClampNeg ((fm_u a 17 X (a 17 X ^^^ ((1 : Int32) <<< (nI Y &&& 31)))) 17 Y ^^^ ((1 : Int32) <<< (nI X &&& 31)))) b R) (by rfl) (by rfl) (fx_inN (i := Y) (by omega) (by omega)) cm_si17 ?_
    rw [show Int32.toNatClampNeg (nI Y) = Y from nI_clamp (by omega)]
    refine hr_s 1 (pc' := 85) (lc' := [(4, .int v), (0, .ref 0), (1, .int (nI X)), (2, .int (nI Y)), (3, .int z)]) (stk' := [.ref 0]) (mem' := cm g l (fm_u (fm_u a 17 X (a 17 X ^^^ ((1 : Int32) <<< (nI Y &&& 31)))) 17 Y ((fm_u a 17 X (a 17 X ^^^ ((1 : Int32) <<< (nI Y &&& 31)))) 17 Y ^^^ ((1 : Int32) <<< (nI X &&& 31)))) b R) (by intro _ _ _; eq_refl) ?_
    refine hr_ivV hl_agree (by omega) (by rfl) (by rfl) (by rfl) (by rfl) (by rfl) (by rfl) ?_
    exact hr_ret (by rfl) (by rfl) (by rfl)
  by_cases e : ((a 17 X >>> (nI Y &&& 31)) &&& 1) = 0
  · rw [e] at hz
    refine hr_s 1 (pc' := cond (fx_cb .eq ((a 17 X >>> (nI Y &&& 31)) &&& 1) 0) 38 34) (lc' := [(0, .ref 0), (1, .int (nI X)), (2, .int (nI Y)), (3, .int z)]) (stk' := []) (mem' := cm g l a b R) (by intro _ _ _; eq_refl) ?_
    rw [show fx_cb .eq ((a 17 X >>> (nI Y &&& 31)) &&& 1) 0 = true from decide_eq_true e]
    dsimp only [cond]
    refine hr_s 1 (pc' := 39) (lc' := [(0, .ref 0), (1, .int (nI X)), (2, .int (nI Y)), (3, .int z)]) (stk' := [.int 0]) (mem' := cm g l a b R) (by intro _ _ _; eq_refl) ?_
    refine hr_s 3 (pc' := 44) (lc' := [(4, .int 0), (0, .ref 0), (1, .int (nI X)), (2, .int (nI Y)), (3, .int z)]) (stk' := [.int z, .int 0]) (mem' := cm g l a b R) (by intro _ _ _; eq_refl) ?_
    refine hr_s 1 (pc' := cond (fx_cb .ne 0 z) 54 47) (lc' := [(4, .int 0), (0, .ref 0), (1, .int (nI X)), (2, .int (nI Y)), (3, .int z)]) (stk' := []) (mem' := cm g l a b R) (by intro _ _ _; eq_refl) ?_
    rw [show fx_cb .ne 0 z = true from by show (!decide ((0 : Int32) = z)) = true; rw [decide_eq_false hz]; rfl]
    dsimp only [cond]
    exact rest 0
  · have e1 : ((a 17 X >>> (nI Y &&& 31)) &&& 1) = 1 := by rw [if_neg e] at e0; exact e0.symm
    rw [e1] at hz
    refine hr_s 1 (pc' := cond (fx_cb .eq ((a 17 X >>> (nI Y &&& 31)) &&& 1) 0) 38 34) (lc' := [(0, .ref 0), (1, .int (nI X)), (2, .int (nI Y)), (3, .int z)]) (stk' := []) (mem' := cm g l a b R) (by intro _ _ _; eq_refl) ?_
    rw [show fx_cb .eq ((a 17 X >>> (nI Y &&& 31)) &&& 1) 0 = false from decide_eq_false e]
    dsimp only [cond]
    refine hr_s 2 (pc' := 39) (lc' := [(0, .ref 0), (1, .int (nI X)), (2, .int (nI Y)), (3, .int z)]) (stk' := [.int 1]) (mem' := cm g l a b R) (by intro _ _ _; eq_refl) ?_
    refine hr_s 3 (pc' := 44) (lc' := [(4, .int 1), (0, .ref 0), (1, .int (nI X)), (2, .int (nI Y)), (3, .int z)]) (stk' := [.int z, .int 1]) (mem' := cm g l a b R) (by intro _ _ _; eq_refl) ?_
    refine hr_s 1 (pc' := cond (fx_cb .ne 1 z) 54 47) (lc' := [(4, .int 1), (0, .ref 0), (1, .int (nI X)), (2, .int (nI Y)), (3, .int z)]) (stk' := []) (mem' := cm g l a b R) (by intro _ _ _; eq_refl) ?_
    rw [show fx_cb .ne 1 z = true from by show (!decide ((1 : Int32) = z)) = true; rw [decide_eq_false hz]; rfl]
    dsimp only [cond]
    exact rest 1
theorem hl_weiF {x y : Int32} (h : ¬ wgN (g 26 7) x y) : hr_T 2 153 [.ref 0, .int x, .int y] (cm g l a b R) (some (.int 0)) (cm (fm_u g 0 0 1) l a b R) := by
  refine hr_meth (by rfl) (by rfl) ?_
  refine hr_s 4 (pc' := 8) (lc' := [(0, .ref 0), (1, .int x), (2, .int y)]) (stk' := [.int x, .ref 26]) (mem' := cm g l a b R) (by intro _ _ _; eq_refl) ?_
  refine hr_ivV hl_has (by omega) (by rfl) (by rfl) (by rfl) (by rfl) (by rfl) (by rfl) ?_
  have bad : hr_R 1 gk_m153 25 [(0, .ref 0), (1, .int x), (2, .int y)] [] (cm g l a b R) (some (.int 0), cm (fm_u g 0 0 1) l a b R) := by
    refine hr_s 2 (pc' := 27) (lc' := [(0, .ref 0), (1, .int x), (2, .int y)]) (stk' := [.int 1, .ref 0]) (mem' := cm g l a b R) (by intro _ _ _; eq_refl) ?_
    refine hr_ivV hl_deny (by omega) (by rfl) (by rfl) (by rfl) (by rfl) (by rfl) (by rfl) ?_
    exact hr_ret (by rfl) (by rfl) (by rfl)
  by_cases h1 : inN (g 26 7) x
  · rw [if_pos h1]
    refine hr_s 1 (pc' := cond (fx_cb .eq 1 0) 25 14) (lc' := [(0, .ref 0), (1, .int x), (2, .int y)]) (stk' := []) (mem' := cm g l a b R) (by intro _ _ _; eq_refl) ?_
    rw [show fx_cb .eq 1 0 = false from by decide]
    dsimp only [cond]
    refine hr_s 2 (pc' := 16) (lc' := [(0, .ref 0), (1, .int x), (2, .int y)]) (stk' := [.int 1, .int y]) (mem' := cm g l a b R) (by intro _ _ _; eq_refl) ?_
    refine hr_s 1 (pc' := cond (fx_cb .lt y 1) 25 19) (lc' := [(0, .ref 0), (1, .int x), (2, .int y)]) (stk' := []) (mem' := cm g l a b R) (by intro _ _ _; eq_refl) ?_
    cases h2 : fx_cb .lt y 1
    · have p2 : (1 : Int) ≤ y.toInt := tc_ltF h2
      refine hr_s 2 (pc' := 22) (lc' := [(0, .ref 0), (1, .int x), (2, .int y)]) (stk' := [.int 99, .int y]) (mem' := cm g l a b R) (by intro _ _ _; eq_refl) ?_
      refine hr_s 1 (pc' := cond (fx_cb .le y 99) 31 25) (lc' := [(0, .ref 0), (1, .int x), (2, .int y)]) (stk' := []) (mem' := cm g l a b R) (by intro _ _ _; eq_refl) ?_
      cases h3 : fx_cb .le y 99
      · exact bad
      · have p3 : y.toInt ≤ (99 : Int) := tc_le h3
        exact absurd ⟨h1, p2, p3⟩ h
    · exact bad
  · rw [if_neg h1]
    refine hr_s 1 (pc' := cond (fx_cb .eq 0 0) 25 14) (lc' := [(0, .ref 0), (1, .int x), (2, .int y)]) (stk' := []) (mem' := cm g l a b R) (by intro _ _ _; eq_refl) ?_
    rw [show fx_cb .eq 0 0 = true from by decide]
    dsimp only [cond]
    exact bad
theorem hl_weiT {X : Nat} {y : Int32} (hX : X < 8) (h : wgN (g 26 7) (nI X) y) : hr_T 2 153 [.ref 0, .int (nI X), .int y] (cm g l a b R) (some (.int 1)) (cm (fm_u g 0 0 0) l (fm_u a 28 X y) b R) := by
  refine hr_meth (by rfl) (by rfl) ?_
  refine hr_s 4 (pc' := 8) (lc' := [(0, .ref 0), (1, .int (nI X)), (2, .int y)]) (stk' := [.int (nI X), .ref 26]) (mem' := cm g l a b R) (by intro _ _ _; eq_refl) ?_
  refine hr_ivV hl_has (by omega) (by rfl) (by rfl) (by rfl) (by rfl) (by rfl) (by rfl) ?_
  rw [if_pos h.1]
  refine hr_s 1 (pc' := cond (fx_cb .eq 1 0) 25 14) (lc' := [(0, .ref 0), (1, .int (nI X)), (2, .int y)]) (stk' := []) (mem' := cm g l a b R) (by intro _ _ _; eq_refl) ?_
  rw [show fx_cb .eq 1 0 = false from by decide]
  dsimp only [cond]
  refine hr_s 2 (pc' := 16) (lc' := [(0, .ref 0), (1, .int (nI X)), (2, .int y)]) (stk' := [.int 1, .int y]) (mem' := cm g l a b R) (by intro _ _ _; eq_refl) ?_
  refine hr_s 1 (pc' := cond (fx_cb .lt y 1) 25 19) (lc' := [(0, .ref 0), (1, .int (nI X)), (2, .int y)]) (stk' := []) (mem' := cm g l a b R) (by intro _ _ _; eq_refl) ?_
  rw [show fx_cb .lt y 1 = false from decide_eq_false (fun z => by have := Int32.lt_iff_toInt_lt.mp z; have h1 := h.2.1; have h2 : (1 : Int32).toInt = 1 := rfl; omega)]
  dsimp only [cond]
  refine hr_s 2 (pc' := 22) (lc' := [(0, .ref 0), (1, .int (nI X)), (2, .int y)]) (stk' := [.int 99, .int y]) (mem' := cm g l a b R) (by intro _ _ _; eq_refl) ?_
  refine hr_s 1 (pc' := cond (fx_cb .le y 99) 31 25) (lc' := [(0, .ref 0), (1, .int (nI X)), (2, .int y)]) (stk' := []) (mem' := cm g l a b R) (by intro _ _ _; eq_refl) ?_
  rw [show fx_cb .le y 99 = true from decide_eq_true (Int32.le_iff_toInt_le.mpr h.2.2)]
  dsimp only [cond]
  refine hr_s 6 (pc' := 43) (lc' := [(0, .ref 0), (1, .int (nI X)), (2, .int y)]) (stk' := [.int y, .int (nI X), .ref 28]) (mem' := cm g l a b R) (by intro _ _ _; eq_refl) ?_
  refine hr_stI (mem' := cm g l (fm_u a 28 (nI X : Int32).toNatClampNeg y) b R) (by rfl) (by rfl) (fx_inN (i := X) (by omega) (by omega)) cm_si28 ?_
  rw [show Int32.toNatClampNeg (nI X) = X from nI_clamp (by omega)]
  refine hr_s 1 (pc' := 45) (lc' := [(0, .ref 0), (1, .int (nI X)), (2, .int y)]) (stk' := [.ref 0]) (mem' := cm g l (fm_u a 28 X y) b R) (by intro _ _ _; eq_refl) ?_
  refine hr_ivV hl_agree (by omega) (by rfl) (by rfl) (by rfl) (by rfl) (by rfl) (by rfl) ?_
  exact hr_ret (by rfl) (by rfl) (by rfl)
end CEX
end MH23_2
section MH23_3
/-! ===== what binds lakes and tapes of both worlds ===== -/
def lkE (o s : Nat) (g a : Nat → Nat → Int32) (am : Nat → Int32) : Prop := g o 8 = am (842 * s) ∧ g (o + 11) 7 = am (842 * s + 1) ∧ (∀ i, i < 10 → a (o + 2) i = am (842 * s + 8 + 6 * i + 2)) ∧ (∀ i, i < 10 → a (o + 3) i = am (842 * s + 8 + 6 * i + 3)) ∧ (∀ i : Nat, i < 8 → (i : Int) < (g (o + 11) 7).toInt → a (o + 13) i = am (842 * s + 278 + 5 * i) ∧ 1 ≤ (am (842 * s + 278 + 5 * i)).toInt ∧ (am (842 * s + 278 + 5 * i)).toInt ≤ 99) ∧ ∀ i : Nat, i < 10 → (i : Int) < (g o 8).toInt → (g o 9 >>> (nI i &&& 31)) &&& 1 = am (842 * s + 8 + 6 * i)
def wrE (g a : Nat → Nat → Int32) (gm : Nat → Int32) (am : Nat → Nat → Int32) : Prop := (g 9 2 = gm 10 ∧ ∀ i : Nat, i < 900 → (i : Int) < (g 9 2).toInt → a 10 i = am 6 i) ∧ g 0 13 = gm 42 ∧ lkE 15 0 g a (am 1) ∧ ∀ m : Nat, m < 3 → (m : Int) < (g 0 13).toInt → lkE (192 + 26 * m) (m + 1) g a (am 1)
def WR (c m : va_W) : Prop := ∃ g a gm am, cw_V c g a ∧ mw_V m gm am ∧ wrE g a gm am
def cw_ag (g a g2 a2 : Nat → Nat → Int32) : Prop := (∀ z ∈ cw_LO, g z.1 z.2 = g2 z.1 z.2) ∧ ∀ z ∈ cw_LA, ∀ i, i < z.2 → a z.1 i = a2 z.1 i
def mw_ag (gm : Nat → Int32) (am : Nat → Nat → Int32) (gm2 : Nat → Int32) (am2 : Nat → Nat → Int32) : Prop := gm 10 = gm2 10 ∧ gm 42 = gm2 42 ∧ (∀ i, i < 900 → am 6 i = am2 6 i) ∧ ∀ i ∈ mw_I, am 1 i = am2 1 i
theorem sv_inj {x y : Int32} {o : Option Value} (h1 : o = some (.int x)) (h2 : o = some (.int y)) : x = y := Value.int.inj (Option.some.inj (h1.symm.trans h2))
theorem cw_un {ws : va_W} {g a g2 a2 : Nat → Nat → Int32} (h : cw_V ws g a) (h2 : cw_V ws g2 a2) : cw_ag g a g2 a2 := ⟨fun z hz => sv_inj (h.1 z hz) (h2.1 z hz), fun z hz i hi => sv_inj (h.2 z hz i hi) (h2.2 z hz i hi)⟩
theorem mw_un {ws : va_W} {gm gm2 : Nat → Int32} {am am2 : Nat → Nat → Int32} (h : mw_V ws gm am) (h2 : mw_V ws gm2 am2) : mw_ag gm am gm2 am2 := ⟨sv_inj h.1 h2.1, sv_inj h.2.1 h2.2.1, fun i hi => sv_inj (h.2.2.1 i hi) (h2.2.2.1 i hi), fun i hi => sv_inj (h.2.2.2 i hi) (h2.2.2.2 i hi)⟩
/-- the places of one lake, class and model -/
def cw_lk (o : Nat) : Prop := ((o, 8) ∈ cw_LO ∧ (o + 11, 7) ∈ cw_LO ∧ (o, 9) ∈ cw_LO) ∧ (o + 2, 10) ∈ cw_LA ∧ (o + 3, 10) ∈ cw_LA ∧ (o + 13, 8) ∈ cw_LA
def mw_lk (s : Nat) : Prop := (842 * s ∈ mw_I ∧ 842 * s + 1 ∈ mw_I) ∧ (∀ i, i < 10 → 842 * s + 8 + 6 * i + 2 ∈ mw_I) ∧ (∀ i, i < 10 → 842 * s + 8 + 6 * i + 3 ∈ mw_I) ∧ (∀ i, i < 8 → 842 * s + 278 + 5 * i ∈ mw_I) ∧ ∀ i, i < 10 → 842 * s + 8 + 6 * i ∈ mw_I
theorem cw_lk15 : cw_lk 15 := ⟨⟨by decide, by decide, by decide⟩, by decide, by decide, by decide⟩
theorem cw_lkm : ∀ m : Nat, m < 3 → cw_lk (192 + 26 * m) := fun m hm => by
  rcases (by omega : m = 0 ∨ m = 1 ∨ m = 2) with rfl | rfl | rfl
  · exact ⟨⟨by decide, by decide, by decide⟩, by decide, by decide, by decide⟩
  · exact ⟨⟨by decide, by decide, by decide⟩, by decide, by decide, by decide⟩
  · exact ⟨⟨by decide, by decide, by decide⟩, by decide, by decide, by decide⟩
theorem mw_lks : ∀ s : Nat, s < 4 → mw_lk s := fun s hs => by
  have h1 : ∀ s, s < 4 → 842 * s ∈ mw_I ∧ 842 * s + 1 ∈ mw_I := by decide +kernel
  have h2 : ∀ s, s < 4 → ∀ i, i < 10 → 842 * s + 8 + 6 * i + 2 ∈ mw_I := by decide +kernel
  have h3 : ∀ s, s < 4 → ∀ i, i < 10 → 842 * s + 8 + 6 * i + 3 ∈ mw_I := by decide +kernel
  have h4 : ∀ s, s < 4 → ∀ i, i < 8 → 842 * s + 278 + 5 * i ∈ mw_I := by decide +kernel
  have h5 : ∀ s, s < 4 → ∀ i, i < 10 → 842 * s + 8 + 6 * i ∈ mw_I := by decide +kernel
  exact ⟨h1 s hs, h2 s hs, h3 s hs, h4 s hs, h5 s hs⟩
theorem lkE_ext {o s : Nat} {g a g2 a2 : Nat → Nat → Int32} {am am2 : Nat → Int32} (h : lkE o s g a am) (hc : g o 8 = g2 o 8 ∧ g (o + 11) 7 = g2 (o + 11) 7 ∧ (∀ i, i < 10 → a (o + 2) i = a2 (o + 2) i) ∧ (∀ i, i < 10 → a (o + 3) i = a2 (o + 3) i) ∧ (∀ i, i < 8 → a (o + 13) i = a2 (o + 13) i) ∧ g o 9 = g2 o 9) (hm : am (842 * s) = am2 (842 * s) ∧ am (842 * s + 1) = am2 (842 * s + 1) ∧ (∀ i, i < 10 → am (842 * s + 8 + 6 * i + 2) = am2 (842 * s + 8 + 6 * i + 2)) ∧ (∀ i, i < 10 → am (842 * s + 8 + 6 * i + 3) = am2 (842 * s + 8 + 6 * i + 3)) ∧ (∀ i, i < 8 → am (842 * s + 278 + 5 * i) = am2 (842 * s + 278 + 5 * i)) ∧ ∀ i, i < 10 → am (842 * s + 8 + 6 * i) = am2 (842 * s + 8 + 6 * i)) : lkE o s g2 a2 am2 := by
  obtain ⟨h1, h2, h3, h4, h5, h6⟩ := h
  obtain ⟨c1, c2, c3, c4, c5, c6⟩ := hc
  obtain ⟨m1, m2, m3, m4, m5, m6⟩ := hm
  refine ⟨by rw [← c1, ← m1, h1], by rw [← c2, ← m2, h2], fun i hi => by rw [← c3 i hi, ← m3 i hi, h3 i hi], fun i hi => by rw [← c4 i hi, ← m4 i hi, h4 i hi], fun i hi hw => ?_, fun i hi hw => ?_⟩
  · rw [← c2] at hw
    rw [← c5 i hi, ← m5 i hi]
    exact h5 i hi hw
  · rw [← c1] at hw
    rw [← c6, ← m6 i hi]
    exact h6 i hi hw
theorem cw_agl {o : Nat} {g a g2 a2 : Nat → Nat → Int32} (ho : cw_lk o) (h : cw_ag g a g2 a2) : g o 8 = g2 o 8 ∧ g (o + 11) 7 = g2 (o + 11) 7 ∧ (∀ i, i < 10 → a (o + 2) i = a2 (o + 2) i) ∧ (∀ i, i < 10 → a (o + 3) i = a2 (o + 3) i) ∧ (∀ i, i < 8 → a (o + 13) i = a2 (o + 13) i) ∧ g o 9 = g2 o 9 := ⟨h.1 _ ho.1.1, h.1 _ ho.1.2.1, h.2 _ ho.2.1, h.2 _ ho.2.2.1, h.2 _ ho.2.2.2, h.1 _ ho.1.2.2⟩
theorem mw_agl {s : Nat} {gm gm2 : Nat → Int32} {am am2 : Nat → Nat → Int32} (hs : mw_lk s) (h : mw_ag gm am gm2 am2) : am 1 (842 * s) = am2 1 (842 * s) ∧ am 1 (842 * s + 1) = am2 1 (842 * s + 1) ∧ (∀ i, i < 10 → am 1 (842 * s + 8 + 6 * i + 2) = am2 1 (842 * s + 8 + 6 * i + 2)) ∧ (∀ i, i < 10 → am 1 (842 * s + 8 + 6 * i + 3) = am2 1 (842 * s + 8 + 6 * i + 3)) ∧ (∀ i, i < 8 → am 1 (842 * s + 278 + 5 * i) = am2 1 (842 * s + 278 + 5 * i)) ∧ ∀ i, i < 10 → am 1 (842 * s + 8 + 6 * i) = am2 1 (842 * s + 8 + 6 * i) := ⟨h.2.2.2 _ hs.1.1, h.2.2.2 _ hs.1.2, fun i hi => h.2.2.2 _ (hs.2.1 i hi), fun i hi => h.2.2.2 _ (hs.2.2.1 i hi), fun i hi => h.2.2.2 _ (hs.2.2.2.1 i hi), fun i hi => h.2.2.2 _ (hs.2.2.2.2 i hi)⟩
theorem wrE_ext {g a g2 a2 : Nat → Nat → Int32} {gm gm2 : Nat → Int32} {am am2 : Nat → Nat → Int32} (h : wrE g a gm am) (hc : cw_ag g a g2 a2) (hm : mw_ag gm am gm2 am2) : wrE g2 a2 gm2 am2 := by
  obtain ⟨⟨h1, h2⟩, h3, h4, h5⟩ := h
  have e92 : g 9 2 = g2 9 2 := hc.1 (9, 2) (by decide)
  have e13 : g 0 13 = g2 0 13 := hc.1 (0, 13) (by decide)
  refine ⟨⟨by rw [← e92, ← hm.1, h1], fun i hi hw => ?_⟩, by rw [← e13, ← hm.2.1, h3], lkE_ext h4 (cw_agl cw_lk15 hc) (mw_agl (mw_lks 0 (by decide)) hm), fun m hm3 hw => ?_⟩
  · rw [← e92] at hw
    have e10 : a 10 i = a2 10 i := hc.2 (10, 900) (by decide) i hi
    rw [← e10, ← hm.2.2.1 i hi, h2 i hi hw]
  · rw [← e13] at hw
    exact lkE_ext (h5 m hm3 hw) (cw_agl (cw_lkm m hm3) hc) (mw_agl (mw_lks (m + 1) (by omega)) hm)
theorem WR_get {c m : va_W} {g a : Nat → Nat → Int32} {gm : Nat → Int32} {am : Nat → Nat → Int32} (h : WR c m) (h1 : cw_V c g a) (h2 : mw_V m gm am) : wrE g a gm am := by
  obtain ⟨g0, a0, gm0, am0, k1, k2, k3⟩ := h
  exact wrE_ext k3 (cw_un k1 h1) (mw_un k2 h2)
theorem WR_un {c0 c1 m0 m1 : va_W} (h : WR c0 m0) (hC : ∀ z ∈ cw_W, lw_at c1 z = lw_at c0 z) (hM : ∀ z ∈ mw_W, lw_at m1 z = lw_at m0 z) : WR c1 m1 := by
  obtain ⟨g, a, gm, am, k1, k2, k3⟩ := h
  exact ⟨g, a, gm, am, cw_keep k1 hC, mw_keep k2 hM, k3⟩
/-! ===== the calls ===== -/
/-- the LAKE's numbers, as a text gave them -/
def cdn (o : Nat) (A : sp_A) (g a : Nat → Nat → Int32) : Prop := g o 8 = nI A.1.1.length ∧ (g (o + 11) 7 = nI A.1.2.length ∧ A.1.2.length ≤ 8) ∧ (∀ i, i < 10 → a (o + 2) i = A.2.1 i) ∧ (∀ i, i < 10 → a (o + 3) i = A.2.2 i) ∧ (∀ i L w, A.1.2[i]? = some (L, w) → a (o + 13) i = nI w ∧ 1 ≤ w ∧ w ≤ 99) ∧ A.1.1.length ≤ 10 ∧ ∀ c, c < 10 → (g o 9 >>> (nI c &&& 31)) &&& 1 = if sp_sh A c = true then 1 else 0
def mdn (s : Nat) (A : sp_A) (am : Nat → Int32) : Prop := am (842 * s) = nI A.1.1.length ∧ am (842 * s + 1) = nI A.1.2.length ∧ (∀ i, i < 10 → am (842 * s + 8 + 6 * i + 2) = A.2.1 i) ∧ (∀ i, i < 10 → am (842 * s + 8 + 6 * i + 3) = A.2.2 i) ∧ (∀ i L w, A.1.2[i]? = some (L, w) → am (842 * s + 278 + 5 * i) = nI w) ∧ ∀ c, c < A.1.1.length → am (842 * s + 8 + 6 * c) = if sp_sh A c = true then 1 else 0
theorem lkE_of {o s : Nat} {A : sp_A} {g a : Nat → Nat → Int32} {am : Nat → Int32} (h : cdn o A g a) (h2 : mdn s A am) : lkE o s g a am := by
  obtain ⟨c1, ⟨c2, c0⟩, c3, c4, c5, c8, c9⟩ := h
  obtain ⟨m1, m2, m3, m4, m5, m9⟩ := h2
  refine ⟨c1.trans m1.symm, c2.trans m2.symm, fun i hi => (c3 i hi).trans (m3 i hi).symm, fun i hi => (c4 i hi).trans (m4 i hi).symm, fun i hi hw => ?_, fun i hi hw => ?_⟩
  · rw [c2, nI_i32 (by omega)] at hw
    have hl : i < A.1.2.length := by omega
    have e : A.1.2[i]? = some (A.1.2[i].1, A.1.2[i].2) := List.getElem?_eq_getElem hl
    obtain ⟨w1, w2, w3⟩ := c5 i _ _ e
    rw [w1, m5 i _ _ e, nI_i32 (by omega)]
    exact ⟨rfl, by omega, by omega⟩
  · rw [c1, nI_i32 (by omega)] at hw
    exact (c9 i hi).trans (m9 i (by omega)).symm
def curS (g a g' a' : Nat → Nat → Int32) : Prop := ∀ j, 15 ≤ j → j ≤ 40 → g' j = g j ∧ a' j = a j
def kepS (g a g' a' : Nat → Nat → Int32) : Prop := ∀ j, 192 ≤ j → g' j = g j ∧ a' j = a j
theorem lkE_cur {s : Nat} {g a g' a' : Nat → Nat → Int32} {am : Nat → Int32} (h : lkE 15 s g a am) (hs : curS g a g' a') : lkE 15 s g' a' am := by
  have e := fun j h1 h2 => hs j h1 h2
  exact lkE_ext h ⟨(congrFun (e 15 (by decide) (by decide)).1 8).symm, (congrFun (e 26 (by decide) (by decide)).1 7).symm, fun i _ => (congrFun (e 17 (by decide) (by decide)).2 i).symm, fun i _ => (congrFun (e 18 (by decide) (by decide)).2 i).symm, fun i _ => (congrFun (e 28 (by decide) (by decide)).2 i).symm, (congrFun (e 15 (by decide) (by decide)).1 9).symm⟩ ⟨rfl, rfl, fun _ _ => rfl, fun _ _ => rfl, fun _ _ => rfl, fun _ _ => rfl⟩
theorem lkE_kep {m s : Nat} {g a g' a' : Nat → Nat → Int32} {am : Nat → Int32} (h : lkE (192 + 26 * m) s g a am) (hs : ∀ j, j = 192 + 26 * m ∨ j = 192 + 26 * m + 11 ∨ j = 192 + 26 * m + 2 ∨ j = 192 + 26 * m + 3 ∨ j = 192 + 26 * m + 13 → g' j = g j ∧ a' j = a j) : lkE (192 + 26 * m) s g' a' am :=
  lkE_ext h ⟨(congrFun (hs _ (by omega)).1 8).symm, (congrFun (hs _ (by omega)).1 7).symm, fun i _ => (congrFun (hs _ (by omega)).2 i).symm, fun i _ => (congrFun (hs _ (by omega)).2 i).symm, fun i _ => (congrFun (hs _ (by omega)).2 i).symm, (congrFun (hs _ (by omega)).1 9).symm⟩ ⟨rfl, rfl, fun _ _ => rfl, fun _ _ => rfl, fun _ _ => rfl, fun _ _ => rfl⟩
abbrev SC : Type := List Value → (Nat → Nat → Int32) → (Nat → Nat → Int32) → (Nat → Nat → Int32) → (Nat → Nat → Int32) → Value → Prop
abbrev SM : Type := List Value → (Nat → Int32) → (Nat → Nat → Int32) → (Nat → Int32) → (Nat → Nat → Int32) → Value → Prop
def QC (W : List (Nat × Nat)) (S : SC) : List Value → va_W → va_W → Value → Prop := fun av ws ws' v => lw_unQ 0 W av ws ws' v ∧ ∃ g a g' a', cw_V ws g a ∧ cw_V ws' g' a' ∧ S av g a g' a' v
def QM (S : SM) : List Value → va_W → va_W → Value → Prop := fun av ws ws' v => lr_ty 0 v ∧ ∃ g a g' a', mw_V ws g a ∧ mw_V ws' g' a' ∧ fm_I g a ∧ S av g a g' a' v
theorem QC_int {W : List (Nat × Nat)} {S : SC} {av : List Value} {c0 c1 : va_W} {v : Value} (h : QC W S av c0 c1 v) : lr_ty 0 v := h.1.1
theorem QM_int {S : SM} {av : List Value} {c0 c1 : va_W} {v : Value} (h : QM S av c0 c1 v) : lr_ty 0 v := h.1
theorem both_rel {W : List (Nat × Nat)} {S1 : SC} {S2 : SM} {av av2 : List Value} {c0 m0 c1 m1 : va_W} {u w : Value} {P : Prop} (hR : WR c0 m0) (h1 : QC W S1 av c0 c1 u) (h2 : QM S2 av2 m0 m1 w) (hS : ∀ g a g' a' gm am gm' am', wrE g a gm am → fm_I gm am → (∀ z ∈ W, z ∈ cw_LO → g' z.1 z.2 = g z.1 z.2) → S1 av g a g' a' u → S2 av2 gm am gm' am' w → P ∧ wrE g' a' gm' am') : P ∧ WR c1 m1 := by
  obtain ⟨h0, g, a, g', a', k1, k2, k3⟩ := h1
  obtain ⟨-, gm, am, gm', am', q1, q2, q0, q3⟩ := h2
  obtain ⟨e, h⟩ := hS g a g' a' gm am gm' am' (WR_get hR k1 q1) q0 (fun z hz hz2 => sv_inj (k2.1 z hz2) ((h0.2 z hz).trans (k1.1 z hz2))) k3 q3
  exact ⟨e, g', a', gm', am', k2, q2, h⟩
/-- feed -/
def feC : SC := fun av g a g' a' _ => ∃ (s : Nat) (v0 v1 v2 v3 v4 : Int32), s ≤ 900 ∧ g 9 2 = nI s ∧ av = [.int v0, .int v1, .int v2, .int v3, .int v4] ∧ ((s ≤ 880 ∧ g' 9 2 = nI (s + 20) ∧ a' 10 = t20 (a 10) s v0 v1 v2 v3 v4) ∨ (880 < s ∧ g' 9 2 = nI s ∧ a' 10 = a 10)) ∧ (∀ j, j ≠ 9 → g' j = g j) ∧ ∀ j, j ≠ 10 → a' j = a j
def feM : SM := fun av g a g' a' _ => ∃ (s : Nat) (v0 v1 v2 v3 v4 : Int32), s ≤ 900 ∧ g 10 = nI s ∧ av = [.int v0, .int v1, .int v2, .int v3, .int v4] ∧ ((s ≤ 880 ∧ g' 10 = nI (s + 20) ∧ a' 6 = t20 (a 6) s v0 v1 v2 v3 v4) ∨ (880 < s ∧ g' 10 = nI s ∧ a' 6 = a 6)) ∧ g' 42 = g 42 ∧ a' 1 = a 1
theorem nI9 {k j : Nat} (hk : k ≤ 900) (hj : j ≤ 900) (h : nI k = nI j) : k = j := by
  have h2 : (nI k).toInt = (nI j).toInt := by rw [h]
  rw [nI_i32 (by omega), nI_i32 (by omega)] at h2
  omega
theorem fe_wr {av : List Value} {u w : Value} {g a g' a' : Nat → Nat → Int32} {gm gm' : Nat → Int32} {am am' : Nat → Nat → Int32} (h : wrE g a gm am) (h1 : feC av g a g' a' u) (h2 : feM av gm am gm' am' w) : wrE g' a' gm' am' := by
  obtain ⟨s, v0, v1, v2, v3, v4, p1, p2, rfl, p3, p4, p5⟩ := h1
  obtain ⟨t, x0, x1, x2, x3, x4, q1, q2, e, q3, q4, q5⟩ := h2
  cases e
  obtain ⟨⟨h1, h2⟩, h3, h4, h5⟩ := h
  have est : s = t := nI9 p1 q1 (by rw [← p2, ← q2, h1])
  subst est
  have f : ∀ i, i < s → a 10 i = am 6 i := fun i hi => h2 i (by omega) (by rw [p2, nI_i32 (by omega)]; omega)
  have c15 : curS g a g' a' := fun j j1 j2 => ⟨p4 j (by omega), p5 j (by omega)⟩
  have e13 : g' 0 13 = g 0 13 := congrFun (p4 0 (by decide)) 13
  refine ⟨?_, by rw [e13, q4, h3], by rw [q5]; exact lkE_cur h4 c15, fun m hm hw => ?_⟩
  · rcases p3 with ⟨z1, z2, z3⟩ | ⟨z1, z2, z3⟩ <;> rcases q3 with ⟨y1, y2, y3⟩ | ⟨y1, y2, y3⟩
    · refine ⟨by rw [z2, y2], fun i hi hw => ?_⟩
      rw [z2, nI_i32 (by omega)] at hw
      rw [z3, y3]
      exact t20_eq f i (by omega)
    · omega
    · omega
    · refine ⟨by rw [z2, y2], fun i hi hw => ?_⟩
      rw [z2, nI_i32 (by omega)] at hw
      rw [z3, y3]
      exact f i (by omega)
  · rw [e13] at hw
    rw [q5]
    exact lkE_kep (h5 m hm hw) (fun j hj => ⟨p4 j (by omega), p5 j (by omega)⟩)
/-- lake -/
def laC : SC := fun av g a g' a' v => ∃ x : Int32, av = [.int x] ∧ a' 10 = a 10 ∧ kepS g a g' a' ∧ ((¬ (0 ≤ x.toInt ∧ x.toInt ≤ (g 9 2).toInt) ∧ v = .int (-1) ∧ g' 9 2 = g 9 2 ∧ curS g a g' a') ∨ ∃ N, x = nI N ∧ (N : Int) ≤ (g 9 2).toInt ∧ g' 9 2 = 0 ∧ v = .int (sp_ans (sp_lake (sp_T (a 10) N) N)) ∧ (match sp_lake (sp_T (a 10) N) N with
  | .inl _ => curS g a g' a'
  | .inr z => cdn 15 z.1 g' a'))
def laM : SM := fun av g a g' a' v => ∃ x : Int32, av = [.int x] ∧ a' 6 = a 6 ∧ g' 42 = g 42 ∧ (∀ i, 842 ≤ i → i < 3368 → a' 1 i = a 1 i) ∧ ((¬ (0 ≤ x.toInt ∧ x.toInt ≤ (g 10).toInt) ∧ v = .int (-1) ∧ g' 10 = g 10 ∧ a' 1 = a 1) ∨ ∃ N, x = nI N ∧ (N : Int) ≤ (g 10).toInt ∧ g' 10 = 0 ∧ v = .int (sp_ans (sp_lake (sp_T (a 6) N) N)) ∧ (match sp_lake (sp_T (a 6) N) N with
  | .inl _ => ∀ i, i < 842 → a' 1 i = a 1 i
  | .inr z => mdn 0 z.1 (a' 1)))
theorem lkE_m {o s : Nat} {g a : Nat → Nat → Int32} {am am' : Nat → Int32} (h : lkE o s g a am) (hm : ∀ i, 842 * s ≤ i → i < 842 * s + 842 → am' i = am i) : lkE o s g a am' := lkE_ext h ⟨rfl, rfl, fun _ _ => rfl, fun _ _ => rfl, fun _ _ => rfl, rfl⟩ ⟨(hm _ (by omega) (by omega)).symm, (hm _ (by omega) (by omega)).symm, fun i hi => (hm _ (by omega) (by omega)).symm, fun i hi => (hm _ (by omega) (by omega)).symm, fun i hi => (hm _ (by omega) (by omega)).symm, fun i hi => (hm _ (by omega) (by omega)).symm⟩
theorem la_wr {av : List Value} {u w : Value} {g a g' a' : Nat → Nat → Int32} {gm gm' : Nat → Int32} {am am' : Nat → Nat → Int32} (h : wrE g a gm am) (hI : (gm 10).toInt ≤ 900) (h13 : g' 0 13 = g 0 13) (h1 : laC av g a g' a' u) (h2 : laM av gm am gm' am' w) : u = w ∧ wrE g' a' gm' am' := by
  obtain ⟨x, rfl, p1, p2, p3⟩ := h1
  obtain ⟨y, e, q1, q0, q2, q3⟩ := h2
  cases e
  obtain ⟨⟨h1, h2⟩, h3, h4, h5⟩ := h
  have kept : ∀ m : Nat, m < 3 → (m : Int) < (g' 0 13).toInt → lkE (192 + 26 * m) (m + 1) g' a' (am' 1) := fun m hm hw => by
    rw [h13] at hw
    exact lkE_m (lkE_kep (h5 m hm hw) (fun j hj => p2 j (by omega))) (fun i i1 i2 => q2 i (by omega) (by omega))
  have e42 : g' 0 13 = gm' 42 := by rw [h13, q0, h3]
  rcases p3 with ⟨z1, rfl, z2, z3⟩ | ⟨N, rfl, z1, z2, rfl, z3⟩ <;> rcases q3 with ⟨y1, rfl, y2, y3⟩ | ⟨N2, e, y1, y2, rfl, y3⟩
  · refine ⟨rfl, ⟨by rw [z2, y2, h1], fun i hi hw => ?_⟩, e42, ?_, kept⟩
    · rw [z2] at hw
      rw [p1, q1]
      exact h2 i hi hw
    · rw [y3]
      exact lkE_cur h4 z3
  · subst e
    rw [h1] at z1
    exact absurd ⟨by rw [nI_i32 (by omega)]; omega, by rw [nI_i32 (by omega)]; exact y1⟩ z1
  · rw [← h1] at y1
    have := h1
    exact absurd ⟨by rw [nI_i32 (by rw [h1] at z1; omega)]; omega, by rw [nI_i32 (by rw [h1] at z1; omega)]; exact z1⟩ y1
  · rw [h1] at z1
    have e2 : N = N2 := nI9 (by omega) (by omega) e
    subst e2
    have eT : sp_T (a 10) N = sp_T (am 6) N := sp_T_eq (fun k hk => h2 k (by omega) (by rw [h1]; omega))
    rw [eT] at z3 ⊢
    refine ⟨rfl, ⟨by rw [z2, y2], fun i hi hw => ?_⟩, e42, ?_, kept⟩
    · rw [z2] at hw
      exact absurd hw (by rw [show (0 : Int32).toInt = 0 from rfl]; omega)
    · cases hz : sp_lake (sp_T (am 6) N) N with
      | inl z =>
        rw [hz] at z3 y3
        exact lkE_m (lkE_cur h4 z3) (fun i i1 i2 => y3 i (by omega))
      | inr z =>
        rw [hz] at z3 y3
        exact lkE_of z3 y3
/-- tales -/
def taC : SC := fun av g a g' a' _ => ∃ n : Int32, av = [.int n] ∧ ((¬ (0 ≤ n.toInt ∧ n.toInt ≤ (g 9 2).toInt ∧ n.toInt ≤ 300) ∧ g' 9 2 = g 9 2) ∨ ((0 ≤ n.toInt ∧ n.toInt ≤ (g 9 2).toInt ∧ n.toInt ≤ 300) ∧ g' 9 2 = 0)) ∧ cw_ag (fun j i => if j = 9 then g' j i else g j i) a g' a'
def taM : SM := fun av g a g' a' _ => ∃ n : Int32, av = [.int n] ∧ ((¬ (0 ≤ n.toInt ∧ n.toInt ≤ (g 10).toInt ∧ n.toInt ≤ 300) ∧ g' 10 = g 10) ∨ ((0 ≤ n.toInt ∧ n.toInt ≤ (g 10).toInt ∧ n.toInt ≤ 300) ∧ g' 10 = 0)) ∧ g' 42 = g 42 ∧ a' 6 = a 6 ∧ ∀ i ∈ mw_I, a' 1 i = a 1 i
theorem ta_wr {av : List Value} {u w : Value} {g a g' a' : Nat → Nat → Int32} {gm gm' : Nat → Int32} {am am' : Nat → Nat → Int32} (h : wrE g a gm am) (h1 : taC av g a g' a' u) (h2 : taM av gm am gm' am' w) : wrE g' a' gm' am' := by
  obtain ⟨n, rfl, p1, p2⟩ := h1
  obtain ⟨n2, e, q1, q2, q3, q4⟩ := h2
  cases e
  obtain ⟨⟨h1, h2⟩, h3, h4, h5⟩ := h
  have h0 : wrE (fun j i => if j = 9 then g' j i else g j i) a (fun k => if k = 10 then gm' k else gm k) am := by
    refine ⟨?_, h3, h4, fun m hm hw => ?_⟩
    · show g' 9 2 = gm' 10 ∧ ∀ i : Nat, i < 900 → (i : Int) < (g' 9 2).toInt → a 10 i = am 6 i
      rcases p1 with ⟨z1, z2⟩ | ⟨z1, z2⟩ <;> rcases q1 with ⟨y1, y2⟩ | ⟨y1, y2⟩
      · rw [z2, y2]
        exact ⟨h1, h2⟩
      · rw [h1] at z1
        exact absurd y1 z1
      · rw [h1] at z1
        exact absurd z1 y1
      · rw [z2, y2]
        exact ⟨rfl, fun i hi hw => absurd hw (by rw [show (0 : Int32).toInt = 0 from rfl]; omega)⟩
    · exact lkE_ext (h5 m hm hw) ⟨(if_neg (by omega)).symm, (if_neg (by omega)).symm, fun _ _ => rfl, fun _ _ => rfl, fun _ _ => rfl, (if_neg (by omega)).symm⟩ ⟨rfl, rfl, fun _ _ => rfl, fun _ _ => rfl, fun _ _ => rfl, fun _ _ => rfl⟩
  exact wrE_ext h0 p2 ⟨rfl, q2.symm, fun i _ => by rw [q3], fun i hi => (q4 i hi).symm⟩
/-- mark, undo -/
def cpn (D S : Nat) (g a g' a' : Nat → Nat → Int32) : Prop := g' D 8 = g S 8 ∧ g' (D + 11) 7 = g (S + 11) 7 ∧ (∀ i, i < 10 → a' (D + 2) i = a (S + 2) i) ∧ (∀ i, i < 10 → a' (D + 3) i = a (S + 3) i) ∧ (∀ i, i < 8 → a' (D + 13) i = a (S + 13) i) ∧ g' D 9 = g S 9
theorem lkE_cp {D S s s' : Nat} {g a g' a' : Nat → Nat → Int32} {am am' : Nat → Int32} (h : lkE S s g a am) (hc : cpn D S g a g' a') (hm : ∀ i, i < 842 → am' (842 * s' + i) = am (842 * s + i)) : lkE D s' g' a' am' := by
  obtain ⟨h1, h2, h3, h4, h5, h6⟩ := h
  obtain ⟨c1, c2, c3, c4, c5, c6⟩ := hc
  have m0 : am' (842 * s') = am (842 * s) := hm 0 (by decide)
  refine ⟨by rw [c1, m0, h1], by rw [c2, hm 1 (by decide), h2], fun i hi => ?_, fun i hi => ?_, fun i hi hw => ?_, fun i hi hw => ?_⟩
  · rw [c3 i hi, h3 i hi, show 842 * s' + 8 + 6 * i + 2 = 842 * s' + (10 + 6 * i) from by omega, hm _ (by omega), show 842 * s + 8 + 6 * i + 2 = 842 * s + (10 + 6 * i) from by omega]
  · rw [c4 i hi, h4 i hi, show 842 * s' + 8 + 6 * i + 3 = 842 * s' + (11 + 6 * i) from by omega, hm _ (by omega), show 842 * s + 8 + 6 * i + 3 = 842 * s + (11 + 6 * i) from by omega]
  · rw [c2] at hw
    have e := hm (278 + 5 * i) (by omega)
    rw [c5 i hi, show 842 * s' + 278 + 5 * i = 842 * s' + (278 + 5 * i) from by omega, e, show 842 * s + (278 + 5 * i) = 842 * s + 278 + 5 * i from by omega]
    exact h5 i hi hw
  · rw [c1] at hw
    rw [c6, show 842 * s' + 8 + 6 * i = 842 * s' + (8 + 6 * i) from by omega, hm (8 + 6 * i) (by omega), show 842 * s + (8 + 6 * i) = 842 * s + 8 + 6 * i from by omega]
    exact h6 i hi hw
def mkC : SC := fun _ g a g' a' v => ∃ k : Nat, k ≤ 3 ∧ g 0 13 = nI k ∧ g' 9 2 = g 9 2 ∧ a' 10 = a 10 ∧ ((k < 3 ∧ v = .int (nI (k + 1)) ∧ g' 0 13 = nI (k + 1) ∧ cpn (192 + 26 * k) 15 g a g' a' ∧ ∀ j, 15 ≤ j → ¬ (192 + 26 * k ≤ j ∧ j ≤ 192 + 26 * k + 25) → g' j = g j ∧ a' j = a j) ∨ (k = 3 ∧ v = .int (-1) ∧ g' 0 13 = g 0 13 ∧ ∀ j, 15 ≤ j → g' j = g j ∧ a' j = a j))
def mkM : SM := fun _ g a g' a' v => ∃ k : Nat, k ≤ 3 ∧ g 42 = nI k ∧ g' 10 = g 10 ∧ a' 6 = a 6 ∧ ((k < 3 ∧ v = .int (nI (k + 1)) ∧ g' 42 = nI (k + 1) ∧ (∀ i, i < 842 → a' 1 (842 * (k + 1) + i) = a 1 (842 * 0 + i)) ∧ ∀ i, ¬ (842 * (k + 1) ≤ i ∧ i < 842 * (k + 1) + 842) → a' 1 i = a 1 i) ∨ (k = 3 ∧ v = .int (-1) ∧ g' 42 = g 42 ∧ a' 1 = a 1))
def udC : SC := fun _ g a g' a' v => ∃ k : Nat, k ≤ 3 ∧ g 0 13 = nI k ∧ g' 9 2 = g 9 2 ∧ a' 10 = a 10 ∧ ((∃ m, k = m + 1 ∧ v = .int (nI m) ∧ g' 0 13 = nI m ∧ cpn 15 (192 + 26 * m) g a g' a' ∧ ∀ j, 41 ≤ j → g' j = g j ∧ a' j = a j) ∨ (k = 0 ∧ v = .int (-1) ∧ g' 0 13 = g 0 13 ∧ ∀ j, 15 ≤ j → g' j = g j ∧ a' j = a j))
def udM : SM := fun _ g a g' a' v => ∃ k : Nat, k ≤ 3 ∧ g 42 = nI k ∧ g' 10 = g 10 ∧ a' 6 = a 6 ∧ ((∃ m, k = m + 1 ∧ v = .int (nI m) ∧ g' 42 = nI m ∧ (∀ i, i < 842 → a' 1 (842 * 0 + i) = a 1 (842 * (m + 1) + i)) ∧ ∀ i, ¬ (i < 842) → a' 1 i = a 1 i) ∨ (k = 0 ∧ v = .int (-1) ∧ g' 42 = g 42 ∧ a' 1 = a 1))
theorem mk_wr {av av2 : List Value} {u w : Value} {g a g' a' : Nat → Nat → Int32} {gm gm' : Nat → Int32} {am am' : Nat → Nat → Int32} (h : wrE g a gm am) (h1 : mkC av g a g' a' u) (h2 : mkM av2 gm am gm' am' w) : u = w ∧ wrE g' a' gm' am' := by
  obtain ⟨k, p1, p2, p3, p4, p5⟩ := h1
  obtain ⟨t, q1, q2, q3, q4, q5⟩ := h2
  obtain ⟨⟨h1, h2⟩, h3, h4, h5⟩ := h
  have ekt : k = t := nI9 (by omega) (by omega) (by rw [← p2, ← q2, h3])
  subst ekt
  have ht : g' 9 2 = gm' 10 ∧ ∀ i : Nat, i < 900 → (i : Int) < (g' 9 2).toInt → a' 10 i = am' 6 i := by
    rw [p3, q3, p4, q4]
    exact ⟨h1, h2⟩
  rcases p5 with ⟨z1, rfl, z2, z3, z4⟩ | ⟨z1, rfl, z2, z3⟩ <;> rcases q5 with ⟨y1, rfl, y2, y3, y4⟩ | ⟨y1, rfl, y2, y3⟩
  · refine ⟨rfl, ht, by rw [z2, y2], lkE_m (lkE_cur h4 (fun j j1 j2 => z4 j j1 (by omega))) (fun i i1 i2 => y4 i (by omega)), fun m hm hw => ?_⟩
    rw [z2, nI_i32 (by omega)] at hw
    by_cases e : m = k
    · subst e
      exact lkE_cp h4 z3 y3
    · exact lkE_m (lkE_kep (h5 m hm (by rw [p2, nI_i32 (by omega)]; omega)) (fun j hj => z4 j (by omega) (by omega))) (fun i i1 i2 => y4 i (by omega))
  · omega
  · omega
  · refine ⟨rfl, ht, by rw [z2, y2, h3], by rw [y3]; exact lkE_cur h4 (fun j j1 j2 => z3 j j1), fun m hm hw => ?_⟩
    rw [z2] at hw
    rw [y3]
    exact lkE_kep (h5 m hm hw) (fun j hj => z3 j (by omega))
theorem ud_wr {av av2 : List Value} {u w : Value} {g a g' a' : Nat → Nat → Int32} {gm gm' : Nat → Int32} {am am' : Nat → Nat → Int32} (h : wrE g a gm am) (h1 : udC av g a g' a' u) (h2 : udM av2 gm am gm' am' w) : u = w ∧ wrE g' a' gm' am' := by
  obtain ⟨k, p1, p2, p3, p4, p5⟩ := h1
  obtain ⟨t, q1, q2, q3, q4, q5⟩ := h2
  obtain ⟨⟨h1, h2⟩, h3, h4, h5⟩ := h
  have ekt : k = t := nI9 (by omega) (by omega) (by rw [← p2, ← q2, h3])
  subst ekt
  have ht : g' 9 2 = gm' 10 ∧ ∀ i : Nat, i < 900 → (i : Int) < (g' 9 2).toInt → a' 10 i = am' 6 i := by
    rw [p3, q3, p4, q4]
    exact ⟨h1, h2⟩
  rcases p5 with ⟨m, rfl, rfl, z2, z3, z4⟩ | ⟨z1, rfl, z2, z3⟩ <;> rcases q5 with ⟨m2, e, rfl, y2, y3, y4⟩ | ⟨y1, rfl, y2, y3⟩
  · have e : m = m2 := by omega
    subst e
    have hcur := h5 m (by omega) (by rw [p2, nI_i32 (by omega)]; omega)
    refine ⟨rfl, ht, by rw [z2, y2], lkE_cp hcur z3 y3, fun j hj hw => ?_⟩
    rw [z2, nI_i32 (by omega)] at hw
    exact lkE_m (lkE_kep (h5 j hj (by rw [p2, nI_i32 (by omega)]; omega)) (fun i hi => z4 i (by omega))) (fun i i1 i2 => y4 i (by omega))
  · omega
  · omega
  · refine ⟨rfl, ht, by rw [z2, y2, h3], by rw [y3]; exact lkE_cur h4 (fun j j1 j2 => z3 j j1), fun m hm hw => ?_⟩
    rw [z2] at hw
    rw [y3]
    exact lkE_kep (h5 m hm hw) (fun j hj => z3 j (by omega))
/-- hew: the bit of a way, told alike -/
def hwC : SC := fun av g a g' a' v => ∃ x y z : Int32, av = [.int x, .int y, .int z] ∧ (g' 0 13 = g 0 13 ∧ ∀ j, j ≠ 0 → g' j = g j) ∧ (∀ j, j ≠ 17 → a' j = a j) ∧ ((¬ twoN (g 15 8) x y ∧ v = .int 0 ∧ a' 17 = a 17) ∨ ∃ X Y, X < 10 ∧ Y < 10 ∧ x = nI X ∧ y = nI Y ∧ twoN (g 15 8) x y ∧ ((fm_b (a 17 X) y = z ∧ v = .int 0 ∧ a' 17 = a 17) ∨ (¬ fm_b (a 17 X) y = z ∧ v = .int 1 ∧ a' 17 = upd (upd (a 17) X (a 17 X ^^^ ((1 : Int32) <<< (y &&& 31)))) Y (upd (a 17) X (a 17 X ^^^ ((1 : Int32) <<< (y &&& 31))) Y ^^^ ((1 : Int32) <<< (x &&& 31))))))
def hwM : SM := fun av g a g' a' v => ∃ x y z : Int32, av = [.int x, .int y, .int z] ∧ (g' 10 = g 10 ∧ g' 42 = g 42) ∧ a' 6 = a 6 ∧ ((¬ twoN (a 1 0) x y ∧ v = .int 0 ∧ a' 1 = a 1) ∨ ∃ X Y, X < 10 ∧ Y < 10 ∧ x = nI X ∧ y = nI Y ∧ twoN (a 1 0) x y ∧ ((fm_b (a 1 (10 + 6 * X)) y = z ∧ v = .int 0 ∧ a' 1 = a 1) ∨ (¬ fm_b (a 1 (10 + 6 * X)) y = z ∧ v = .int 1 ∧ a' 1 = upd (upd (a 1) (10 + 6 * X) (a 1 (10 + 6 * X) ^^^ ((1 : Int32) <<< (y &&& 31)))) (10 + 6 * Y) (upd (a 1) (10 + 6 * X) (a 1 (10 + 6 * X) ^^^ ((1 : Int32) <<< (y &&& 31))) (10 + 6 * Y) ^^^ ((1 : Int32) <<< (x &&& 31))))))
theorem nI10 {k j : Nat} (hk : k < 10) (hj : j < 10) (h : nI k = nI j) : k = j := nI9 (by omega) (by omega) h
theorem hw_wr {av : List Value} {u w : Value} {g a g' a' : Nat → Nat → Int32} {gm gm' : Nat → Int32} {am am' : Nat → Nat → Int32} (h : wrE g a gm am) (h1 : hwC av g a g' a' u) (h2 : hwM av gm am gm' am' w) : u = w ∧ wrE g' a' gm' am' := by
  obtain ⟨x, y, z, rfl, ⟨p0, p1⟩, p2, p3⟩ := h1
  obtain ⟨x2, y2, z2, e, ⟨q0, q1⟩, q2, q3⟩ := h2
  cases e
  obtain ⟨⟨h1, h2⟩, h3, h4, h5⟩ := h
  have e8 : g 15 8 = am 1 0 := h4.1
  have ht : g' 9 2 = gm' 10 ∧ ∀ i : Nat, i < 900 → (i : Int) < (g' 9 2).toInt → a' 10 i = am' 6 i := by
    rw [show g' 9 2 = g 9 2 from congrFun (p1 9 (by decide)) 2, q0, p2 10 (by decide), q2]
    exact ⟨h1, h2⟩
  have e13 : g' 0 13 = gm' 42 := by rw [p0, q1, h3]
  have same : a' 17 = a 17 → am' 1 = am 1 → wrE g' a' gm' am' := fun k1 k2 => by
    have ka : a' = a := funext (fun j => by
      by_cases e : j = 17
      · rw [e, k1]
      · exact p2 j e)
    refine ⟨ht, e13, ?_, fun m hm hw => ?_⟩
    · rw [k2, ka]
      exact lkE_cur h4 (fun j j1 j2 => ⟨p1 j (by omega), rfl⟩)
    · rw [p0] at hw
      rw [k2, ka]
      exact lkE_kep (h5 m hm hw) (fun j hj => ⟨p1 j (by omega), rfl⟩)
  rcases p3 with ⟨z1, rfl, z3⟩ | ⟨X, Y, hX, hY, rfl, rfl, z1, z3⟩ <;> rcases q3 with ⟨y1, rfl, y3⟩ | ⟨X2, Y2, hX2, hY2, e1, e2, y1, y3⟩
  · exact ⟨rfl, same z3 y3⟩
  · rw [e8] at z1
    exact absurd y1 z1
  · rw [e8] at z1
    exact absurd z1 y1
  · have eX := nI10 hX hX2 e1
    have eY := nI10 hY hY2 e2
    subst eX eY
    have w17 : ∀ i, i < 10 → a 17 i = am 1 (10 + 6 * i) := fun i hi => by
      have := h4.2.2.1 i hi
      rw [show 842 * 0 + 8 + 6 * i + 2 = 10 + 6 * i from by omega] at this
      exact this
    rw [w17 X hX] at z3
    rcases z3 with ⟨b1, rfl, b2⟩ | ⟨b1, rfl, b2⟩ <;> rcases y3 with ⟨c1, rfl, c2⟩ | ⟨c1, rfl, c2⟩
    · exact ⟨rfl, same b2 c2⟩
    · exact absurd b1 c1
    · exact absurd c1 b1
    · have eu : ∀ i, i < 10 → upd (a 17) X (am 1 (10 + 6 * X) ^^^ ((1 : Int32) <<< (nI Y &&& 31))) i = upd (am 1) (10 + 6 * X) (am 1 (10 + 6 * X) ^^^ ((1 : Int32) <<< (nI Y &&& 31))) (10 + 6 * i) := fun i hi => by
        unfold upd
        by_cases e : i = X
        · rw [if_pos e, if_pos (by omega)]
        · rw [if_neg e, if_neg (by omega)]
          exact w17 i hi
      have eu2 : ∀ i, i < 10 → a' 17 i = am' 1 (10 + 6 * i) := fun i hi => by
        rw [b2, c2]
        rw [eu Y hY]
        by_cases e : i = Y
        · rw [e, pk_us, pk_us]
        · rw [pk_un e, pk_un (show 10 + 6 * i ≠ 10 + 6 * Y by omega)]
          exact eu i hi
      have em : ∀ i, i ≠ 10 + 6 * X → i ≠ 10 + 6 * Y → am' 1 i = am 1 i := fun i i1 i2 => by rw [c2, pk_un i2, pk_un i1]
      refine ⟨rfl, ht, e13, ?_, fun m hm hw => ?_⟩
      · obtain ⟨k1, k2, k3, k4, k5, k6⟩ := h4
        refine ⟨?_, ?_, fun i hi => ?_, fun i hi => ?_, fun i hi hw => ?_, fun i hi hw => ?_⟩
        · rw [show g' 15 8 = g 15 8 from congrFun (p1 15 (by decide)) 8, em _ (by omega) (by omega), k1]
        · rw [show g' (15 + 11) 7 = g (15 + 11) 7 from congrFun (p1 26 (by decide)) 7, em _ (by omega) (by omega), k2]
        · rw [show 842 * 0 + 8 + 6 * i + 2 = 10 + 6 * i from by omega]
          exact eu2 i hi
        · rw [p2 (15 + 3) (by decide), em _ (by omega) (by omega), k4 i hi]
        · rw [show g' (15 + 11) 7 = g (15 + 11) 7 from congrFun (p1 26 (by decide)) 7] at hw
          rw [p2 (15 + 13) (by decide), em _ (by omega) (by omega)]
          exact k5 i hi hw
        · rw [show g' 15 8 = g 15 8 from congrFun (p1 15 (by decide)) 8] at hw
          rw [show g' 15 9 = g 15 9 from congrFun (p1 15 (by decide)) 9, em _ (by omega) (by omega)]
          exact k6 i hi hw
      · rw [p0] at hw
        exact lkE_m (lkE_kep (h5 m hm hw) (fun j hj => ⟨p1 j (by omega), p2 j (by omega)⟩)) (fun i i1 i2 => em i (by omega) (by omega))
/-- weigh -/
def wgC : SC := fun av g a g' a' v => ∃ x y : Int32, av = [.int x, .int y] ∧ (g' 0 13 = g 0 13 ∧ ∀ j, j ≠ 0 → g' j = g j) ∧ (∀ j, j ≠ 28 → a' j = a j) ∧ ((¬ wgN (g 26 7) x y ∧ v = .int 0 ∧ a' 28 = a 28) ∨ ∃ X, X < 8 ∧ x = nI X ∧ wgN (g 26 7) x y ∧ v = .int 1 ∧ a' 28 = upd (a 28) X y)
def wgM : SM := fun av g a g' a' v => ∃ x y : Int32, av = [.int x, .int y] ∧ (g' 10 = g 10 ∧ g' 42 = g 42) ∧ a' 6 = a 6 ∧ ((¬ wgN (a 1 1) x y ∧ v = .int 0 ∧ a' 1 = a 1) ∨ ∃ X, X < 8 ∧ x = nI X ∧ wgN (a 1 1) x y ∧ v = .int 1 ∧ a' 1 = upd (a 1) (278 + 5 * X) y)
theorem wg_wr {av : List Value} {u w : Value} {g a g' a' : Nat → Nat → Int32} {gm gm' : Nat → Int32} {am am' : Nat → Nat → Int32} (h : wrE g a gm am) (h1 : wgC av g a g' a' u) (h2 : wgM av gm am gm' am' w) : u = w ∧ wrE g' a' gm' am' := by
  obtain ⟨x, y, rfl, ⟨p0, p1⟩, p2, p3⟩ := h1
  obtain ⟨x2, y2, e, ⟨q0, q1⟩, q2, q3⟩ := h2
  cases e
  obtain ⟨⟨h1, h2⟩, h3, h4, h5⟩ := h
  have e8 : g 26 7 = am 1 1 := h4.2.1
  have ht : g' 9 2 = gm' 10 ∧ ∀ i : Nat, i < 900 → (i : Int) < (g' 9 2).toInt → a' 10 i = am' 6 i := by
    rw [show g' 9 2 = g 9 2 from congrFun (p1 9 (by decide)) 2, q0, p2 10 (by decide), q2]
    exact ⟨h1, h2⟩
  have e13 : g' 0 13 = gm' 42 := by rw [p0, q1, h3]
  rcases p3 with ⟨z1, rfl, z3⟩ | ⟨X, hX, rfl, z1, rfl, z3⟩ <;> rcases q3 with ⟨y1, rfl, y3⟩ | ⟨X2, hX2, e1, y1, rfl, y3⟩
  · have ka : a' = a := funext (fun j => by
      by_cases e : j = 28
      · rw [e, z3]
      · exact p2 j e)
    refine ⟨rfl, ht, e13, ?_, fun m hm hw => ?_⟩
    · rw [y3, ka]
      exact lkE_cur h4 (fun j j1 j2 => ⟨p1 j (by omega), rfl⟩)
    · rw [p0] at hw
      rw [y3, ka]
      exact lkE_kep (h5 m hm hw) (fun j hj => ⟨p1 j (by omega), rfl⟩)
  · rw [e8] at z1
    exact absurd y1 z1
  · rw [e8] at z1
    exact absurd z1 y1
  · have eX := nI10 (by omega) (by omega) e1
    subst eX
    have em : ∀ i, i ≠ 278 + 5 * X → am' 1 i = am 1 i := fun i i1 => by rw [y3, pk_un i1]
    refine ⟨rfl, ht, e13, ?_, fun m hm hw => ?_⟩
    · obtain ⟨k1, k2, k3, k4, k5, k6⟩ := h4
      refine ⟨?_, ?_, fun i hi => ?_, fun i hi => ?_, fun i hi hw => ?_, fun i hi hw => ?_⟩
      · rw [show g' 15 8 = g 15 8 from congrFun (p1 15 (by decide)) 8, em _ (by omega), k1]
      · rw [show g' (15 + 11) 7 = g (15 + 11) 7 from congrFun (p1 26 (by decide)) 7, em _ (by omega), k2]
      · rw [p2 (15 + 2) (by decide), em _ (by omega), k3 i hi]
      · rw [p2 (15 + 3) (by decide), em _ (by omega), k4 i hi]
      · rw [show g' (15 + 11) 7 = g (15 + 11) 7 from congrFun (p1 26 (by decide)) 7] at hw
        rw [show 842 * 0 + 278 + 5 * i = 278 + 5 * i from by omega]
        show a' 28 i = am' 1 (278 + 5 * i) ∧ _
        rw [z3, y3]
        by_cases e : i = X
        · rw [e, pk_us, pk_us]
          exact ⟨rfl, z1.2.1, z1.2.2⟩
        · rw [pk_un e, pk_un (show 278 + 5 * i ≠ 278 + 5 * X by omega)]
          have := k5 i hi hw
          rw [show 842 * 0 + 278 + 5 * i = 278 + 5 * i from by omega] at this
          exact this
      · rw [show g' 15 8 = g 15 8 from congrFun (p1 15 (by decide)) 8] at hw
        rw [show g' 15 9 = g 15 9 from congrFun (p1 15 (by decide)) 9, em _ (by omega)]
        exact k6 i hi hw
    · rw [p0] at hw
      exact lkE_m (lkE_kep (h5 m hm hw) (fun j hj => ⟨p1 j (by omega), p2 j (by omega)⟩)) (fun i i1 i2 => em i (by omega))
/-- way, beside: answers alone -/
def wyC (ar : Nat) : SC := fun av g a _ _ v => ∃ x y : Int32, av = [.int x, .int y] ∧ ((¬ twoN (g 15 8) x y ∧ v = .int (-1)) ∨ ∃ X, X < 10 ∧ x = nI X ∧ twoN (g 15 8) x y ∧ v = .int (fm_b (a ar X) y))
def wyM (d : Nat) : SM := fun av _ a _ _ v => ∃ x y : Int32, av = [.int x, .int y] ∧ ((¬ twoN (a 1 0) x y ∧ v = .int (-1)) ∨ ∃ X, X < 10 ∧ x = nI X ∧ twoN (a 1 0) x y ∧ v = .int (fm_b (a 1 (d + 6 * X)) y))
theorem wy_wr {ar d : Nat} (hd : ar = 17 ∧ d = 10 ∨ ar = 18 ∧ d = 11) {av : List Value} {u w : Value} {g a g' a' : Nat → Nat → Int32} {gm gm' : Nat → Int32} {am am' : Nat → Nat → Int32} (h : wrE g a gm am) (h1 : wyC ar av g a g' a' u) (h2 : wyM d av gm am gm' am' w) : u = w := by
  obtain ⟨x, y, rfl, p3⟩ := h1
  obtain ⟨x2, y2, e, q3⟩ := h2
  cases e
  have e8 : g 15 8 = am 1 0 := h.2.2.1.1
  rcases p3 with ⟨z1, rfl⟩ | ⟨X, hX, rfl, z1, rfl⟩ <;> rcases q3 with ⟨y1, rfl⟩ | ⟨X2, hX2, e1, y1, rfl⟩
  · rfl
  · rw [e8] at z1
    exact absurd y1 z1
  · rw [e8] at z1
    exact absurd z1 y1
  · have eX := nI10 hX hX2 e1
    subst eX
    rcases hd with ⟨rfl, rfl⟩ | ⟨rfl, rfl⟩
    · have := h.2.2.1.2.2.1 X hX
      rw [show 842 * 0 + 8 + 6 * X + 2 = 10 + 6 * X from by omega] at this
      rw [show a 17 X = am 1 (10 + 6 * X) from this]
    · have := h.2.2.1.2.2.2.1 X hX
      rw [show 842 * 0 + 8 + 6 * X + 3 = 11 + 6 * X from by omega] at this
      rw [show a 18 X = am 1 (11 + 6 * X) from this]
end MH23_3
section MH23_4
/-! ===== lakes and tape: the calls of both ===== -/
section WRQ
variable {l : Launch} {D : va_G} {xt : tk_XT} {ads : List Nat}
theorem cx_of {k f : Nat} {as : List Value} {v : Option Value} {g g' : Nat → Nat → Int32} {l' l'' : Nat → Nat → Int64} {a a' : Nat → Nat → Int32} {b b' : Nat → Nat → Int64} {R : (Nat → fx_E) × fx_M} (h : hr_T k f as (cm g l' a b (cR g l' a b R)) v (cm g' l'' a' b' (cR g l' a b R))) (hk : ∀ j, 67 ≤ j → g' j = g j ∧ a' j = a j ∧ b' j = b j) : hr_T k f as (cx g l' a b R) v (cx g' l'' a' b' R) := by
  unfold cx
  rw [cR_eq (l := l') (l' := l'') hk]
  exact h
theorem av2 {e1 e2 : tk_I} {rest : List Value} (h : rk_A2 lq_av ([0, 0].zip [e1, e2]) rest) : ∃ v0 v1 : Int32, rest = [.int v0, .int v1] := by
  obtain ⟨x0, r0, rfl, k0⟩ := av_int (show rk_A2 lq_av ((0, e1) :: [(0, e2)]) rest from h)
  obtain ⟨x1, r1, rfl, k1⟩ := av_int k0
  obtain rfl := k1.nil
  exact ⟨x0, x1, rfl⟩
theorem av3 {e1 e2 e3 : tk_I} {rest : List Value} (h : rk_A2 lq_av ([0, 0, 0].zip [e1, e2, e3]) rest) : ∃ v0 v1 v2 : Int32, rest = [.int v0, .int v1, .int v2] := by
  obtain ⟨x0, r0, rfl, k0⟩ := av_int (show rk_A2 lq_av ((0, e1) :: [(0, e2), (0, e3)]) rest from h)
  obtain ⟨x1, r1, rfl, k1⟩ := av_int k0
  obtain ⟨x2, r2, rfl, k2⟩ := av_int k1
  obtain rfl := k2.nil
  exact ⟨x0, x1, x2, rfl⟩
abbrev KC (l : Launch) (D : va_G) (xt : tk_XT) (ads : List Nat) (f : Nat) (kinds : List Nat) (envs : List tk_I) (W : List (Nat × Nat)) : Prop := lw_sem l D xt gc_TY h3_X ads lw_twC 20 f kinds envs (lw_unQ 0 W)
abbrev HS (xt : tk_XT) : Prop := ∀ (Ad : Nat → Prop) (U : State) (H : Heap), xt Ad U H → ∃ pl v tx, sk_X pl v Ad U H ∧ vk_R "GooseIceModel" 189 tx pl U
/-! ===== feed ===== -/
theorem feC_sem (hxt : tk_xtok xt) {W : List (Nat × Nat)} (hK : KC l D xt ads 134 [0, 0, 0, 0, 0] [gn_i, gn_i, gn_i, gn_i, gn_i] W) : lw_sem l D xt gc_TY h3_X ads lw_twC 20 134 [0, 0, 0, 0, 0] [gn_i, gn_i, gn_i, gn_i, gn_i] (QC W feC) := by
  refine cx_sem (S := feC) (k := 2) hxt (by decide) hK (fun rest g l' a b R hr hin => ?_)
  obtain ⟨v0, v1, v2, v3, v4, rfl⟩ := av5 hr
  obtain ⟨s, hs, es⟩ := nI_bd (x := g 9 2) (n := 900) hin.1.1.1 hin.1.1.2
  by_cases h8 : s ≤ 880
  · obtain ⟨g', a', h1, h2, h3, h4, h5⟩ := ha_feed (g := g) (l := l') (a := a) (b := b) (R := cR g l' a b R) (v0 := v0) (v1 := v1) (v2 := v2) (v3 := v3) (v4 := v4) es h8
    exact ⟨.int (nI (s + 20)), g', l', a', b, Nat.zero_le 1, cx_of h1 (fun j hj => ⟨h4 j (by omega), h5 j (by omega), rfl⟩), s, v0, v1, v2, v3, v4, hs, es, rfl, Or.inl ⟨h8, h2, h3⟩, h4, h5⟩
  · exact ⟨.int (-1), g, l', a, b, Nat.zero_le 1, cx_of (ha_feedN es (by omega) hs) (fun _ _ => ⟨rfl, rfl, rfl⟩), s, v0, v1, v2, v3, v4, hs, es, rfl, Or.inr ⟨by omega, es, rfl⟩, fun _ _ => rfl, fun _ _ => rfl⟩
theorem feM_sem (hst : HS xt) : lw_sem l D xt gn_TY (gn_X lw_twM) ads lw_twM 6 219 [0, 0, 0, 0, 0] [gn_i, gn_i, gn_i, gn_i, gn_i] (QM feM) := by
  refine mx_sem (S := feM) (k := 2) (n := 5) hst gn_MF_ms (fun g tp bt a b xs hx hI => ?_)
  obtain ⟨s, hs, es⟩ := fm_I_10 hI
  obtain ⟨v0, r0, rfl, k0⟩ := fm_xsS hx
  obtain ⟨v1, r1, rfl, k1⟩ := fm_xsS k0
  obtain ⟨v2, r2, rfl, k2⟩ := fm_xsS k1
  obtain ⟨v3, r3, rfl, k3⟩ := fm_xsS k2
  obtain ⟨v4, r4, rfl, k4⟩ := fm_xsS k3
  obtain rfl := List.length_eq_zero_iff.mp k4
  by_cases h8 : s ≤ 880
  · obtain ⟨g', a', h1, h2, h3, h4, h5⟩ := ma_feed (g := g) (tp := tp) (bt := bt) (a := a) (b := b) (v0 := v0) (v1 := v1) (v2 := v2) (v3 := v3) (v4 := v4) es h8
    have hB : fm_B a' := fm_B_eq hI.2.1 (fun i => by rw [h5 1 (by decide)]) (fun i hi => by rw [h5 9 (by decide)]; exact hI.2.1.2.2 i hi)
    have hI2 : fm_I g' a' := ⟨fun q hq => by
      by_cases e : q.1 = 10
      · have e2 := gm_gf10 q hq e
        subst e2
        show (0 : Int) ≤ (g' 10).toInt ∧ (g' 10).toInt ≤ 900
        rw [h2, nI_i32 (by omega)]
        omega
      · rw [h3 q.1 e]
        exact hI.1 q hq, hB, fun q hq i hi => by
      by_cases e : q.1 = 6
      · have e2 := gm_ar6 q hq e
        subst e2
        show (-128 : Int) ≤ (a' 6 i).toInt ∧ (a' 6 i).toInt ≤ 127
        rw [h4]
        exact t20_bd (n := 900) (fun i hi => hI.2.2 (6, 900, (-128), 127) (by decide) i hi) i hi
      · rw [h5 q.1 e]
        exact hI.2.2 q hq i hi⟩
    have hF : fm_ffr gn_MF g a b g' a' b := ⟨fun k => by
      by_cases h : k = 10
      · subst h; exact Or.inl (List.mem_append_right _ (by decide))
      · exact Or.inr (h3 k h), fun t _ => by
      by_cases h : t = 6
      · subst h; exact Or.inl (List.mem_append_right _ (by decide))
      · exact Or.inr (h5 t h), fun t => Or.inr rfl⟩
    exact ⟨nI (s + 20), g', tp, bt, a', b, h1, hI2, hF, s, v0, v1, v2, v3, v4, hs, es, rfl, Or.inl ⟨h8, h2, h4⟩, h3 42 (by decide), h5 1 (by decide)⟩
  · exact ⟨-1, g, tp, bt, a, b, ma_feedN es (by omega) hs, hI, ⟨fun k => Or.inr rfl, fun t _ => Or.inr rfl, fun t => Or.inr rfl⟩, s, v0, v1, v2, v3, v4, hs, es, rfl, Or.inr ⟨by omega, es, rfl⟩, rfl, rfl⟩
/-! ===== lake ===== -/
theorem laC_sem (hxt : tk_xtok xt) {W : List (Nat × Nat)} (hK : KC l D xt ads 135 [0] [gn_i] W) : lw_sem l D xt gc_TY h3_X ads lw_twC 20 135 [0] [gn_i] (QC W laC) := by
  refine cx_sem (S := laC) (k := 8) hxt (by decide) hK (fun rest g l' a b R hr hin => ?_)
  obtain ⟨x, r0, rfl, k0⟩ := av_int hr
  obtain rfl := k0.nil
  obtain ⟨v, g', l'', a', b', hrun, hh⟩ := ha_lake (g := g) (l := l') (a := a) (b := b) (R := cR g l' a b R) (x := x) hin.1.1 hin.2.1 hin.2.2.2
  rcases hh with ⟨hno, rfl, rfl, rfl, rfl, rfl⟩ | ⟨N, rfl, hN, h92, hm⟩
  · exact ⟨.int (-1), _, _, _, _, Nat.zero_le 1, cx_of hrun (fun j hj => ⟨fm_un (by omega), rfl, rfl⟩), x, rfl, rfl, fun j hj => ⟨fm_un (by omega), rfl⟩, Or.inl ⟨hno, rfl, rfl, fun j j1 j2 => ⟨fm_un (by omega), rfl⟩⟩⟩
  · cases hz : sp_lake (sp_T (a 10) N) N with
    | inl z =>
      rw [hz] at hm
      obtain ⟨rfl, -, -, -, -, hf⟩ := hm
      refine ⟨.int (-1), g', l'', a', b', Nat.zero_le 1, cx_of hrun (fun j hj => hf j (by omega) (by omega) (by omega) (by omega)), nI N, rfl, (hf 10 (by decide) (by decide) (by decide) (by decide)).2.1, fun j hj => ⟨(hf j (by omega) (by omega) (by omega) (by omega)).1, (hf j (by omega) (by omega) (by omega) (by omega)).2.1⟩, Or.inr ⟨N, rfl, hN, h92, ?_, ?_⟩⟩
      · rw [hz]; rfl
      · rw [hz]
        exact fun j j1 j2 => ⟨(hf j (by omega) (by omega) (by omega) (by omega)).1, (hf j (by omega) (by omega) (by omega) (by omega)).2.1⟩
    | inr z =>
      rw [hz] at hm
      obtain ⟨rfl, -, -, -, hcd, -, hf⟩ := hm
      obtain ⟨⟨k1, k2, k3, k4, k5, k6⟩, k7, k8, k9, k10⟩ := hcd
      refine ⟨.int (nI z.1.1.1.length), g', l'', a', b', Nat.zero_le 1, cx_of hrun (fun j hj => hf j (by omega) (by omega) (by omega) (by omega)), nI N, rfl, (hf 10 (by decide) (by decide) (by decide) (by decide)).2.1, fun j hj => ⟨(hf j (by omega) (by omega) (by omega) (by omega)).1, (hf j (by omega) (by omega) (by omega) (by omega)).2.1⟩, Or.inr ⟨N, rfl, hN, h92, ?_, ?_⟩⟩
      · rw [hz]; rfl
      · rw [hz]
        exact ⟨k1, ⟨k3, k4⟩, k8, k9, fun i L w h => k10 i L w h, k2, k7⟩
theorem laM_sem (hst : HS xt) : lw_sem l D xt gn_TY (gn_X lw_twM) ads lw_twM 14 246 [0] [gn_i] (QM laM) := by
  refine mx_sem (S := laM) (k := 10) (n := 1) hst gn_M1_ms (fun g tp bt a b xs hx hI => ?_)
  obtain ⟨s, hs, es⟩ := fm_I_10 hI
  obtain ⟨x, r0, rfl, k0⟩ := fm_xsS hx
  obtain rfl := List.length_eq_zero_iff.mp k0
  obtain ⟨v, mem', hP, hf⟩ := fr_lake (g := g) (tp := tp) (bt := bt) (a := a) (b := b) (n := x) ⟨s, hs, es⟩
  obtain ⟨v, g', tp', bt', a', b', e, h1, h2⟩ := fm_I_FL hI hP
  cases e
  obtain ⟨v2, g2, a2, b2, hrun, hh⟩ := mr_lake (g := g) (tp := tp) (bt := bt) (a := a) (b := b) (x := x) (by rw [es, nI_i32 (by omega)]; omega) (fun k hk => hI.2.2 (6, 900, (-128), 127) (by decide) k hk)
  obtain ⟨d1, d2⟩ := fr_det hf hrun
  have ev : v = v2 := Value.int.inj (Option.some.inj d1)
  have e10 : g' 10 = g2 10 := Value.int.inj (Option.some.inj (fm_o_inj 10 d2))
  have e6 : a' 6 = a 6 := (h2.2.1 6 (by decide)).resolve_left (by decide +kernel)
  have e42 : g' 42 = g 42 := (h2.1 42).resolve_left (by decide +kernel)
  have ea1 : a' 1 = a2 1 := by
    have k1 : (fm g' tp' bt' a' b')[1]? = some (.inr (.int, 5894, .inl (a' 1))) := rfl
    have k2 : (fm g2 tp bt a2 b2)[1]? = some (.inr (.int, 5894, .inl (a2 1))) := rfl
    rw [d2, k2] at k1
    injection k1 with k1
    injection k1 with k1
    injection k1 with _ k1
    injection k1 with _ k1
    injection k1 with k1
    exact k1.symm
  rcases hh with ⟨hno, k1, k2, k3, -⟩ | ⟨N, rfl, hN, h0, hm⟩
  · exact ⟨v, g', tp', bt', a', b', hf, h1, h2, x, rfl, e6, e42, fun i _ _ => by rw [ea1, k3], Or.inl ⟨hno, by rw [ev, k1], by rw [e10, k2, pk_un (by decide)], by rw [ea1, k3]⟩⟩
  · refine ⟨v, g', tp', bt', a', b', hf, h1, h2, nI N, rfl, e6, e42, fun i i1 i2 => ?_, Or.inr ⟨N, rfl, hN, by rw [e10, h0], ?_, ?_⟩⟩
    · rw [ea1]
      cases hz : sp_lake (sp_T (a 6) N) N with
      | inl z =>
        rw [hz] at hm
        exact hm.2.2.2.2.2.1 i (by omega)
      | inr z =>
        rw [hz] at hm
        exact hm.2.2.2.2.2.2.1 i (by omega) (by omega)
    · rw [ev]
      cases hz : sp_lake (sp_T (a 6) N) N with
      | inl z =>
        rw [hz] at hm
        exact congrArg Value.int hm.1
      | inr z =>
        rw [hz] at hm
        exact congrArg Value.int hm.1
    · rw [ea1]
      cases hz : sp_lake (sp_T (a 6) N) N with
      | inl z =>
        rw [hz] at hm
        exact fun i hi => hm.2.2.2.2.2.1 i (by omega)
      | inr z =>
        rw [hz] at hm
        obtain ⟨⟨k1, k2, k3, k4⟩, k5, k6, k7, k8, k9⟩ := hm.2.2.2.2.1
        exact ⟨k1, k3, fun i hi => by rw [show 842 * 0 + 8 + 6 * i + 2 = 0 + 8 + 6 * i + 2 from by omega]; exact k7 i hi, fun i hi => by rw [show 842 * 0 + 8 + 6 * i + 3 = 0 + 8 + 6 * i + 3 from by omega]; exact k8 i hi, fun i L w h => by rw [show 842 * 0 + 278 + 5 * i = 0 + 278 + 5 * i from by omega]; exact (k9 i L w h).1, fun c hc => by rw [show 842 * 0 + 8 + 6 * c = 0 + 8 + 6 * c from by omega]; exact k6 c hc⟩
/-! ===== tales ===== -/
theorem ta_semV (hxt : tk_xtok xt) {W : List (Nat × Nat)} (hW : lr_un lw_twC gc_TY gc_K61.2.2.2.2.2.2 W = true) : lw_sem l D xt gc_TY (gc_X lw_twC) ads lw_twC 13 136 [0] [gn_i] (fun av ws ws' v => lk_Q 300 (9, 2) av ws ws' v ∧ (∀ z ∈ W, lw_at ws' z = lw_at ws z) ∧ ∃ g a : Nat → Nat → Int32, cw_V ws g a) := by
  refine lw_sem_K (fun U ax ws av a1 a2 a3 a4 a5 a6 => ?_)
  obtain ⟨e, e2, yr, s, hw, hat, hty, hw2, hs, hat2⟩ := fd_wC a1 a3 a4
  obtain ⟨v1, r1, rfl, h1, a2'⟩ := rk_A2.cons (show rk_A2 lq_av [(0, gn_i)] av from a2)
  obtain rfl := a2'.nil
  obtain ⟨n, rfl, hn1, hn2⟩ : ∃ n : Int32, v1 = .int n ∧ (-2147483648 : Int) ≤ n.toInt ∧ n.toInt ≤ 2147483647 := by
    rcases h1 with ⟨-, x, e, b1, b2⟩ | ⟨h1, -⟩
    · exact ⟨x, e, b1, b2⟩
    · cases h1
  refine ⟨_, _, [6], [yr], _, _, _, [n.toInt, (s : Int)], ta_C lw_gcU hxt, ⟨⟨⟨hn1, hn2⟩, ⟨by show (0 : Int) ≤ _; omega, by show _ ≤ (900 : Int); omega⟩, trivial⟩, fun q hq => absurd hq List.not_mem_nil⟩, ⟨hty, trivial⟩, ⟨⟨n, rfl, by show some (1 * n.toInt + 0) = _; congr 1; omega⟩, trivial⟩, ?_, ?_⟩
  · intro z hz
    rcases List.mem_cons.mp hz with hz | hz
    · rw [hz]
      exact lw_fk (r := 0) (j := 0) (i := 7) rfl hw hat ⟨yr, rfl, rfl⟩
    · rw [List.mem_singleton.mp hz]
      exact lw_fk (r := 1) (j := 9) (i := 2) rfl hw2 hat2 ⟨nI s, rfl, by show some (1 * (s : Int) + 0) = _; rw [nI_i32 (by omega)]; congr 1; omega⟩
  · intro y hy t vals' rads' ws' oc k1 k2 k3 k4 k5 k6 k7 k8
    have hv0 : vals'[0]? = some n.toInt := lw_vals k1 rfl
    have hv1 : vals'[1]? = some (s : Int) := lw_vals k1 rfl
    have hr1 : rads'[1]? = some yr := lw_rads (r := 1) k2 rfl
    have hE0 : ∀ (I : tk_I), y.2.1.1[0]? = some I → I.1 ≤ n.toInt ∧ n.toInt ≤ I.2 := fun I hI => by
      obtain ⟨z, hz, h⟩ := k3.1.get hI
      rw [hv0] at hz
      cases hz
      exact h
    have hC : ∀ q ∈ y.2.1.2, ∃ x y2 : Int, vals'[q.1]? = some x ∧ vals'[q.2.1]? = some y2 ∧ x ≤ y2 + q.2.2 := k3.2
    have keep : ∀ {v : Value}, tk_g vals' rads' (0, 2, 1, 0) v → v = .int (nI s) := fun {v} g2 => by
      obtain ⟨x, rfl, hx⟩ := tk_g0 g2 rfl
      have hx : (match vals'[1]? with
        | some z => some (((1 : Nat) : Int) * z + 0)
        | none => none) = some x.toInt := hx
      rw [hv1] at hx
      have hx : some (1 * (s : Int) + 0) = some x.toInt := hx
      exact congrArg Value.int (Int32.toInt_inj.mp (by rw [nI_i32 (by omega)]; have := Option.some.inj hx; omega))
    rcases List.mem_cons.mp hy with hy | hy
    · subst hy
      have hb := hE0 ((-2147483648), (-1)) rfl
      obtain ⟨v, g1, g2⟩ := lw_fk_at (j := 9) (i := 2) a5 (k5.trans a3.symm) hr1 hw2 (k4 _ (List.mem_singleton.mpr rfl))
      obtain ⟨u, hg, eu⟩ := k8
      obtain ⟨x2, rfl, hx2⟩ := tk_g_int hg
      exact ⟨_, eu, ⟨⟨_, rfl⟩, s, n, rfl, hs, hat2, Or.inl ⟨fun h => by have := hb.2; have := h.1; omega, by rw [g1, keep g2]⟩⟩, lw_un_at a4.len.symm hW k7, _, _, cw_in a4⟩
    rcases List.mem_cons.mp hy with hy | hy
    · subst hy
      obtain ⟨p, q, hp, hq, hpq⟩ := hC (1, 0, (-1)) (List.mem_singleton.mpr rfl)
      rw [hv1] at hp
      rw [hv0] at hq
      cases hp
      cases hq
      obtain ⟨v, g1, g2⟩ := lw_fk_at (j := 9) (i := 2) a5 (k5.trans a3.symm) hr1 hw2 (k4 _ (List.mem_singleton.mpr rfl))
      obtain ⟨u, hg, eu⟩ := k8
      obtain ⟨x2, rfl, hx2⟩ := tk_g_int hg
      exact ⟨_, eu, ⟨⟨_, rfl⟩, s, n, rfl, hs, hat2, Or.inl ⟨fun h => by have q1 : (s : Int) ≤ n.toInt + (-1) := hpq; have := h.2.1; omega, by rw [g1, keep g2]⟩⟩, lw_un_at a4.len.symm hW k7, _, _, cw_in a4⟩
    rcases List.mem_cons.mp hy with hy | hy
    · subst hy
      have hb := hE0 (301, 2147483647) rfl
      obtain ⟨v, g1, g2⟩ := lw_fk_at (j := 9) (i := 2) a5 (k5.trans a3.symm) hr1 hw2 (k4 _ (List.mem_singleton.mpr rfl))
      obtain ⟨u, hg, eu⟩ := k8
      obtain ⟨x2, rfl, hx2⟩ := tk_g_int hg
      exact ⟨_, eu, ⟨⟨_, rfl⟩, s, n, rfl, hs, hat2, Or.inl ⟨fun h => by have := hb.1; have := h.2.2; omega, by rw [g1, keep g2]⟩⟩, lw_un_at a4.len.symm hW k7, _, _, cw_in a4⟩
    · rw [List.mem_singleton.mp hy] at hE0 hC k4 k8
      have hb := hE0 (0, 300) rfl
      obtain ⟨p, q, hp, hq, hpq⟩ := hC (0, 1, 0) (List.mem_singleton.mpr rfl)
      rw [hv0] at hp
      rw [hv1] at hq
      cases hp
      cases hq
      obtain ⟨v, g1, g2⟩ := lw_fk_at (j := 9) (i := 2) a5 (k5.trans a3.symm) hr1 hw2 (k4 _ (List.mem_singleton.mpr rfl))
      obtain ⟨u, hg, eu⟩ := k8
      obtain ⟨x2, rfl, -⟩ := tk_g0 hg rfl
      exact ⟨_, eu, ⟨⟨_, rfl⟩, s, n, rfl, hs, hat2, Or.inr ⟨⟨hb.1, by have q1 : n.toInt ≤ (s : Int) + 0 := hpq; omega, hb.2⟩, by rw [g1, tk_g_nI (k := 0) (by decide) g2]⟩⟩, lw_un_at a4.len.symm hW k7, _, _, cw_in a4⟩
def ta_W : List (Nat × Nat) := h3_W ++ (cw_W.filter (fun z => !(Nat.beq z.1 9 && Nat.beq z.2 2)))
theorem taC_sem (hxt : tk_xtok xt) : lw_sem l D xt gc_TY h3_X ads lw_twC 20 136 [0] [gn_i] (QC [] taC) := by
  refine lw_sem_imp (lw_sem_h3 (lw_sem_up (by decide) (ta_semV (W := ta_W) hxt (by decide +kernel))) (fun av ws ws' v h z hz => h.2.1 z (List.mem_append_left _ hz))) ?_
  rintro av ws ws' v - ⟨⟨hv, s, n, rfl, hs, h1, h2⟩, hu, g, a, hV⟩
  have hk : ∀ z ∈ cw_W, z ≠ (9, 2) → lw_at ws' z = lw_at ws z := fun z hz hne => hu z (List.mem_append_right _ (List.mem_filter.mpr ⟨hz, by
    cases e : (Nat.beq z.1 9 && Nat.beq z.2 2) with
    | false => rfl
    | true =>
      obtain ⟨e1, e2⟩ := Bool.and_eq_true_iff.mp e
      exact absurd (Prod.ext (Nat.eq_of_beq_eq_true e1) (Nat.eq_of_beq_eq_true e2)) hne⟩))
  have e92 : g 9 2 = nI s := sv_inj (hV.1 (9, 2) (by decide)) h1
  have hA : ∀ z ∈ cw_LA, ∀ i, i < z.2 → lw_at ws' (z.1, i) = some (.int (a z.1 i)) := fun z hz i hi => by
    rw [hk (z.1, i) (List.mem_append_right _ (List.mem_flatMap.mpr ⟨z, hz, List.mem_map.mpr ⟨i, List.mem_range.mpr hi, rfl⟩⟩)) (fun e => by
      have e1 : z.1 = 9 := congrArg Prod.fst e
      have : ∀ z ∈ cw_LA, z.1 ≠ 9 := by decide
      exact this z hz e1)]
    exact hV.2 z hz i hi
  have fin : ∀ y : Int32, lw_at ws' (9, 2) = some (.int y) → cw_V ws' (fun j i => if j = 9 then y else g j i) a := fun y hy => ⟨fun z hz => by
    by_cases e : z = (9, 2)
    · subst e
      exact hy
    · have e9 : z.1 ≠ 9 := fun e1 => by
        have : ∀ z ∈ cw_LO, z.1 = 9 → z = (9, 2) := by decide
        exact e (this z hz e1)
      rw [hk z (List.mem_append_left _ hz) e]
      refine (hV.1 z hz).trans ?_
      show some (Value.int (g z.1 z.2)) = some (Value.int (if z.1 = 9 then y else g z.1 z.2))
      rw [if_neg e9], hA⟩
  rcases h2 with ⟨p1, p2⟩ | ⟨p1, p2⟩
  · refine ⟨⟨hv, fun z hz => absurd hz List.not_mem_nil⟩, g, a, _, a, hV, fin _ p2, n, rfl, Or.inl ⟨?_, ?_⟩, fun z hz => ?_, fun z hz i hi => rfl⟩
    · rw [e92, nI_i32 (by omega)]; exact p1
    · show nI s = g 9 2; rw [e92]
    · dsimp only
      by_cases e : z.1 = 9
      · rw [if_pos e]
      · rw [if_neg e, if_neg e]
  · refine ⟨⟨hv, fun z hz => absurd hz List.not_mem_nil⟩, g, a, _, a, hV, fin _ p2, n, rfl, Or.inr ⟨?_, rfl⟩, fun z hz => ?_, fun z hz i hi => rfl⟩
    · rw [e92, nI_i32 (by omega)]; exact p1
    · dsimp only
      by_cases e : z.1 = 9
      · rw [if_pos e]
      · rw [if_neg e, if_neg e]
theorem taM_sem (hst : HS xt) : lw_sem l D xt gn_TY (gn_X lw_twM) ads lw_twM 17 252 [0] [gn_i] (QM taM) := by
  refine mx_sem (S := taM) (k := 13) (n := 1) hst gn_M1_ms (fun g tp bt a b xs hx hI => ?_)
  obtain ⟨s, hs, es⟩ := fm_I_10 hI
  obtain ⟨x0, xs0, rfl, hx0⟩ := fm_xsS hx
  obtain rfl := List.length_eq_zero_iff.mp hx0
  obtain ⟨v, mem', hP, hf⟩ := fr_tales (g := g) (tp := tp) (bt := bt) (a := a) (b := b) (n := x0) (fm_I_TH hI)
  obtain ⟨v, g', tp', bt', a', b', e, h1, h2⟩ := fm_I_FTA hI hP
  cases e
  have e6 : a' 6 = a 6 := (h2.2.1 6 (by decide)).resolve_left (by decide +kernel)
  have e42 : g' 42 = g 42 := (h2.1 42).resolve_left (by decide +kernel)
  obtain ⟨v2, g2, a2, e, hz⟩ := hP
  have em : fm g' tp' bt' a' b' = fm g2 tp bt a2 b := congrArg Prod.snd e
  have e2 : g' 10 = g2 10 := Value.int.inj (Option.some.inj (fm_o_inj 10 em))
  have ea1 : a' 1 = a2 1 := by
    have k1 : (fm g' tp' bt' a' b')[1]? = some (.inr (.int, 5894, .inl (a' 1))) := rfl
    have k2 : (fm g2 tp bt a2 b)[1]? = some (.inr (.int, 5894, .inl (a2 1))) := rfl
    rw [em, k2] at k1
    injection k1 with k1
    injection k1 with k1
    injection k1 with _ k1
    injection k1 with _ k1
    injection k1 with k1
    exact k1.symm
  have cv : (0 ≤ x0 ∧ x0 ≤ g 10 ∧ x0 ≤ 300) ↔ (0 ≤ x0.toInt ∧ x0.toInt ≤ (g 10).toInt ∧ x0.toInt ≤ 300) := by
    rw [Int32.le_iff_toInt_le, Int32.le_iff_toInt_le, Int32.le_iff_toInt_le, show (300 : Int32).toInt = 300 from rfl, show (0 : Int32).toInt = 0 from rfl]
  have mw_tl : ∀ i ∈ mw_I, i ≠ 6 ∧ ¬ (478 ≤ i ∧ i < 838) ∧ ¬ (3368 ≤ i ∧ i < 4210) := by decide +kernel
  rcases hz with ⟨z1, -, z3, z4⟩ | ⟨z1, z2⟩
  · exact ⟨v, g', tp', bt', a', b', hf, h1, h2, x0, rfl, Or.inl ⟨fun h => z1 (cv.mpr h), by rw [e2, z3, pk_un (by decide)]⟩, e42, e6, fun i _ => by rw [ea1, z4]⟩
  · have hfr := z2.2.2.2.2.2.2.2.2.2.2.2.2.1
    exact ⟨v, g', tp', bt', a', b', hf, h1, h2, x0, rfl, Or.inr ⟨cv.mp z1, by rw [e2]; exact z2.2.1⟩, e42, e6, fun i hi => by rw [ea1]; exact hfr i (mw_tl i hi).1 (mw_tl i hi).2.1 (mw_tl i hi).2.2⟩
/-! ===== mark, undo ===== -/
theorem mkC_sem (hxt : tk_xtok xt) {W : List (Nat × Nat)} (hK : KC l D xt ads 184 [] [] W) : lw_sem l D xt gc_TY h3_X ads lw_twC 20 184 [] [] (QC W mkC) := by
  refine cx_sem (S := mkC) (k := 3) hxt (by decide) hK (fun rest g l' a b R hr hin => ?_)
  obtain rfl := hr.nil
  obtain ⟨k, hk, ek⟩ := nI_bd (x := g 0 13) (n := 3) hin.1.2.1.1 hin.1.2.1.2
  rcases (by omega : k = 0 ∨ k = 1 ∨ k = 2 ∨ k = 3) with rfl | rfl | rfl | rfl

  · obtain ⟨g', a', b', h1, h2, h3, h4⟩ := ha_mark0 (g := g) (l := l') (a := a) (b := b) (R := R) ek (hin.2.2.1.2 34 (Or.inl rfl))
    exact ⟨.int 1, g', l', a', b', Nat.zero_le 1, h1, 0, by decide, ek, congrFun (h4 9 (by decide) (by decide)).1 2, (h4 10 (by decide) (by decide)).2.1, Or.inl ⟨by decide, rfl, h2, ⟨h3.1, h3.2.2.1, h3.2.2.2.2.2.1, h3.2.2.2.2.2.2.1, h3.2.2.2.2.2.2.2, h3.2.1⟩, fun j j1 j2 => ⟨(h4 j (by omega) j2).1, (h4 j (by omega) j2).2.1⟩⟩⟩
  · obtain ⟨g', a', b', h1, h2, h3, h4⟩ := ha_mark1 (g := g) (l := l') (a := a) (b := b) (R := R) ek (hin.2.2.1.2 34 (Or.inl rfl))
    exact ⟨.int 2, g', l', a', b', Nat.zero_le 1, h1, 1, by decide, ek, congrFun (h4 9 (by decide) (by decide)).1 2, (h4 10 (by decide) (by decide)).2.1, Or.inl ⟨by decide, rfl, h2, ⟨h3.1, h3.2.2.1, h3.2.2.2.2.2.1, h3.2.2.2.2.2.2.1, h3.2.2.2.2.2.2.2, h3.2.1⟩, fun j j1 j2 => ⟨(h4 j (by omega) j2).1, (h4 j (by omega) j2).2.1⟩⟩⟩
  · obtain ⟨g', a', b', h1, h2, h3, h4⟩ := ha_mark2 (g := g) (l := l') (a := a) (b := b) (R := R) ek (hin.2.2.1.2 34 (Or.inl rfl))
    exact ⟨.int 3, g', l', a', b', Nat.zero_le 1, h1, 2, by decide, ek, congrFun (h4 9 (by decide) (by decide)).1 2, (h4 10 (by decide) (by decide)).2.1, Or.inl ⟨by decide, rfl, h2, ⟨h3.1, h3.2.2.1, h3.2.2.2.2.2.1, h3.2.2.2.2.2.2.1, h3.2.2.2.2.2.2.2, h3.2.1⟩, fun j j1 j2 => ⟨(h4 j (by omega) j2).1, (h4 j (by omega) j2).2.1⟩⟩⟩
  · exact ⟨.int (-1), _, l', a, b, Nat.zero_le 1, ha_markN ek, 3, by decide, ek, congrFun (fm_un (by decide)) 2, rfl, Or.inr ⟨rfl, rfl, rfl, fun j j1 => ⟨fm_un (by omega), rfl⟩⟩⟩
theorem udC_sem (hxt : tk_xtok xt) {W : List (Nat × Nat)} (hK : KC l D xt ads 185 [] [] W) : lw_sem l D xt gc_TY h3_X ads lw_twC 20 185 [] [] (QC W udC) := by
  refine cx_sem (S := udC) (k := 3) hxt (by decide) hK (fun rest g l' a b R hr hin => ?_)
  obtain rfl := hr.nil
  obtain ⟨k, hk, ek⟩ := nI_bd (x := g 0 13) (n := 3) hin.1.2.1.1 hin.1.2.1.2
  rcases (by omega : k = 0 ∨ k = 1 ∨ k = 2 ∨ k = 3) with rfl | rfl | rfl | rfl
  · exact ⟨.int (-1), _, l', a, b, Nat.zero_le 1, ha_undoN ek, 0, by decide, ek, congrFun (fm_un (by decide)) 2, rfl, Or.inr ⟨rfl, rfl, rfl, fun j j1 => ⟨fm_un (by omega), rfl⟩⟩⟩
  · obtain ⟨g', a', b', h1, h2, h3, h4⟩ := ha_undo0 (g := g) (l := l') (a := a) (b := b) (R := R) ek (hin.2.2.1.2 _ (by first | exact Or.inr (Or.inl rfl) | exact Or.inr (Or.inr (Or.inl rfl)) | exact Or.inr (Or.inr (Or.inr rfl))))
    exact ⟨.int 0, g', l', a', b', Nat.zero_le 1, h1, 1, by decide, ek, congrFun (h4 9 (by decide) (by decide)).1 2, (h4 10 (by decide) (by decide)).2.1, Or.inl ⟨0, rfl, rfl, h2, ⟨h3.1, h3.2.2.1, h3.2.2.2.2.2.1, h3.2.2.2.2.2.2.1, h3.2.2.2.2.2.2.2, h3.2.1⟩, fun j j1 => ⟨(h4 j (by omega) (by omega)).1, (h4 j (by omega) (by omega)).2.1⟩⟩⟩
  · obtain ⟨g', a', b', h1, h2, h3, h4⟩ := ha_undo1 (g := g) (l := l') (a := a) (b := b) (R := R) ek (hin.2.2.1.2 _ (by first | exact Or.inr (Or.inl rfl) | exact Or.inr (Or.inr (Or.inl rfl)) | exact Or.inr (Or.inr (Or.inr rfl))))
    exact ⟨.int 1, g', l', a', b', Nat.zero_le 1, h1, 2, by decide, ek, congrFun (h4 9 (by decide) (by decide)).1 2, (h4 10 (by decide) (by decide)).2.1, Or.inl ⟨1, rfl, rfl, h2, ⟨h3.1, h3.2.2.1, h3.2.2.2.2.2.1, h3.2.2.2.2.2.2.1, h3.2.2.2.2.2.2.2, h3.2.1⟩, fun j j1 => ⟨(h4 j (by omega) (by omega)).1, (h4 j (by omega) (by omega)).2.1⟩⟩⟩
  · obtain ⟨g', a', b', h1, h2, h3, h4⟩ := ha_undo2 (g := g) (l := l') (a := a) (b := b) (R := R) ek (hin.2.2.1.2 _ (by first | exact Or.inr (Or.inl rfl) | exact Or.inr (Or.inr (Or.inl rfl)) | exact Or.inr (Or.inr (Or.inr rfl))))
    exact ⟨.int 2, g', l', a', b', Nat.zero_le 1, h1, 3, by decide, ek, congrFun (h4 9 (by decide) (by decide)).1 2, (h4 10 (by decide) (by decide)).2.1, Or.inl ⟨2, rfl, rfl, h2, ⟨h3.1, h3.2.2.1, h3.2.2.2.2.2.1, h3.2.2.2.2.2.2.1, h3.2.2.2.2.2.2.2, h3.2.1⟩, fun j j1 => ⟨(h4 j (by omega) (by omega)).1, (h4 j (by omega) (by omega)).2.1⟩⟩⟩
section FQM
variable {g : Nat → Int32} {tp bt : Int64} {a : Nat → Nat → Int32} {b : Nat → Nat → Int64}
theorem fq_mark {m : Nat} (hB : fm_B a) (hm : g 42 = nI m) (hm3 : m ≤ 3) : ∃ (v : Option Value) (mem' : fx_M), (fun R => ∃ (v : Int32) (g' : Nat → Int32) (a' : Nat → Nat → Int32) (b' : Nat → Nat → Int64), (m = 3 ∧ v = -1 ∧ g' = upd g 2 4 ∧ a' = a ∧ b' = b ∨ m < 3 ∧ v = nI (m + 1) ∧ g' = upd (upd g 42 (nI (m + 1))) 2 0 ∧ fm_B a' ∧ fm_cpy a a' 0 (m + 1) ∧ ∀ t, t ≠ 2 → b' t = b t) ∧ R = (some (.int v), fm g' tp bt a' b')) (v, mem') ∧ fr_T 2 370 [.ref 0] (fm g tp bt a b) v mem' := by
  refine fe_meth (F := fun R => ∃ (v : Int32) (g' : Nat → Int32) (a' : Nat → Nat → Int32) (b' : Nat → Nat → Int64), (m = 3 ∧ v = -1 ∧ g' = upd g 2 4 ∧ a' = a ∧ b' = b ∨ m < 3 ∧ v = nI (m + 1) ∧ g' = upd (upd g 42 (nI (m + 1))) 2 0 ∧ fm_B a' ∧ fm_cpy a a' 0 (m + 1) ∧ ∀ t, t ≠ 2 → b' t = b t) ∧ R = (some (.int v), fm g' tp bt a' b')) (M := gk_m370) (by rfl) (by rfl) ?_
  refine fe_s 3 (pc' := 5) (lc' := [(0, .ref 0)]) (stk' := [.int 3, .int (g 42)]) (mem' := fm g tp bt a b) (by intro _ _ _; eq_refl) ?_
  try rw [hm]
  refine fe_s 1 (pc' := cond (fx_cb .ne (nI m) 3) 14 8) (lc' := [(0, .ref 0)]) (stk' := []) (mem' := fm g tp bt a b) (by intro _ _ _; eq_refl) ?_
  by_cases h1 : m = 3
  · rw [show (fx_cb .ne (nI m) 3) = false from cb_neF (a := m) (b := 3) (by omega) (by omega) (by omega)]
    dsimp only [cond]
    refine fe_s 2 (pc' := 10) (lc' := [(0, .ref 0)]) (stk' := [.int 4, .ref 0]) (mem' := fm g tp bt a b) (by intro _ _ _; eq_refl) ?_
    refine fe_ivV (fr_refuse (x := 4)) (by omega) (by rfl) (by rfl) (by rfl) (by rfl) (by rfl) (by rfl) ?_
    exact fe_ret ⟨_, _, a, b, Or.inl ⟨by omega, rfl, rfl, rfl, rfl⟩, rfl⟩ (by rfl) (by rfl) (by rfl)
  · rw [show (fx_cb .ne (nI m) 3) = true from cb_neT (a := m) (b := 3) (by omega) (by omega) (by omega)]
    dsimp only [cond]
    refine fe_s 10 (pc' := 30) (lc' := [(0, .ref 0)]) (stk' := [.int ((g 42) + 1), .int 0, .ref 0]) (mem' := fm (upd g 42 ((g 42) + 1)) tp bt a b) (by intro _ _ _; eq_refl) ?_
    try rw [hm]
    rw [show ((nI m) + 1 : Int32) = nI (m + 1) from by simp only [show (1 : Int32) = nI 1 from rfl, nI_add, fm_mul]]
    obtain ⟨v5, mem5, ⟨a5, b5, hc5, hb5, hR5⟩, hfr5⟩ := fr_copies (s := 0) (d := m + 1) (g := (upd g 42 (nI (m + 1)))) (tp := tp) (bt := bt) (a := a) (b := b) (by omega) (by omega) (by omega)
    cases hR5
    refine fe_ivV hfr5 (by omega) (by rfl) (by rfl) (by rfl) (by rfl) (by rfl) (by rfl) ?_
    refine fe_s 3 (pc' := 38) (lc' := [(0, .ref 0)]) (stk' := [.int (nI (m + 1)), .ref 0]) (mem' := fm (upd g 42 (nI (m + 1))) tp bt a5 b5) (by intro _ _ _; eq_refl) ?_
    refine fe_ivV (fr_gives (x := nI (m + 1))) (by omega) (by rfl) (by rfl) (by rfl) (by rfl) (by rfl) (by rfl) ?_
    exact fe_ret ⟨_, _, a5, b5, Or.inr ⟨by omega, rfl, rfl, fm_B_cpy hB (by omega) (by omega) hc5, hc5, hb5⟩, rfl⟩ (by rfl) (by rfl) (by rfl)
theorem fq_undo {m : Nat} (hB : fm_B a) (hm : g 42 = nI m) (hm3 : m ≤ 3) : ∃ (v : Option Value) (mem' : fx_M), (fun R => ∃ (v : Int32) (g' : Nat → Int32) (a' : Nat → Nat → Int32) (b' : Nat → Nat → Int64), (m = 0 ∧ v = -1 ∧ g' = upd g 2 6 ∧ a' = a ∧ b' = b ∨ 0 < m ∧ v = nI (m - 1) ∧ g' = upd (upd g 42 (nI (m - 1))) 2 0 ∧ fm_B a' ∧ fm_cpy a a' m 0 ∧ ∀ t, t ≠ 2 → b' t = b t) ∧ R = (some (.int v), fm g' tp bt a' b')) (v, mem') ∧ fr_T 2 371 [.ref 0] (fm g tp bt a b) v mem' := by
  refine fe_meth (F := fun R => ∃ (v : Int32) (g' : Nat → Int32) (a' : Nat → Nat → Int32) (b' : Nat → Nat → Int64), (m = 0 ∧ v = -1 ∧ g' = upd g 2 6 ∧ a' = a ∧ b' = b ∨ 0 < m ∧ v = nI (m - 1) ∧ g' = upd (upd g 42 (nI (m - 1))) 2 0 ∧ fm_B a' ∧ fm_cpy a a' m 0 ∧ ∀ t, t ≠ 2 → b' t = b t) ∧ R = (some (.int v), fm g' tp bt a' b')) (M := gk_m371) (by rfl) (by rfl) ?_
  refine fe_s 2 (pc' := 4) (lc' := [(0, .ref 0)]) (stk' := [.int (g 42)]) (mem' := fm g tp bt a b) (by intro _ _ _; eq_refl) ?_
  try rw [hm]
  refine fe_s 1 (pc' := cond (fx_cb .ne (nI m) 0) 14 7) (lc' := [(0, .ref 0)]) (stk' := []) (mem' := fm g tp bt a b) (by intro _ _ _; eq_refl) ?_
  by_cases h1 : m = 0
  · rw [show (fx_cb .ne (nI m) 0) = false from cb_neF (a := m) (b := 0) (by omega) (by omega) (by omega)]
    dsimp only [cond]
    refine fe_s 2 (pc' := 10) (lc' := [(0, .ref 0)]) (stk' := [.int 6, .ref 0]) (mem' := fm g tp bt a b) (by intro _ _ _; eq_refl) ?_
    refine fe_ivV (fr_refuse (x := 6)) (by omega) (by rfl) (by rfl) (by rfl) (by rfl) (by rfl) (by rfl) ?_
    exact fe_ret ⟨_, _, a, b, Or.inl ⟨by omega, rfl, rfl, rfl, rfl⟩, rfl⟩ (by rfl) (by rfl) (by rfl)
  · rw [show (fx_cb .ne (nI m) 0) = true from cb_neT (a := m) (b := 0) (by omega) (by omega) (by omega)]
    dsimp only [cond]
    refine fe_s 4 (pc' := 20) (lc' := [(0, .ref 0)]) (stk' := [.int 0, .int (g 42), .ref 0]) (mem' := fm g tp bt a b) (by intro _ _ _; eq_refl) ?_
    try rw [hm]
    obtain ⟨v5, mem5, ⟨a5, b5, hc5, hb5, hR5⟩, hfr5⟩ := fr_copies (s := m) (d := 0) (g := g) (tp := tp) (bt := bt) (a := a) (b := b) (by omega) (by omega) (by omega)
    cases hR5
    refine fe_ivV hfr5 (by omega) (by rfl) (by rfl) (by rfl) (by rfl) (by rfl) (by rfl) ?_
    refine fe_s 9 (pc' := 38) (lc' := [(0, .ref 0)]) (stk' := [.int ((g 42) - 1), .ref 0]) (mem' := fm (upd g 42 ((g 42) - 1)) tp bt a5 b5) (by intro _ _ _; eq_refl) ?_
    try rw [hm]
    rw [show ((nI m) - 1 : Int32) = nI (m - 1) from by simp only [show (1 : Int32) = nI 1 from rfl, tg_sub2 (x := m) (y := 1) (by omega), nI_add, fm_mul]]
    refine fe_ivV (fr_gives (x := nI (m - 1))) (by omega) (by rfl) (by rfl) (by rfl) (by rfl) (by rfl) (by rfl) ?_
    exact fe_ret ⟨_, _, a5, b5, Or.inr ⟨by omega, rfl, rfl, fm_B_cpy hB (by omega) (by omega) hc5, hc5, hb5⟩, rfl⟩ (by rfl) (by rfl) (by rfl)
end FQM
theorem mk_row {g1 g2 : Nat → Int32} {t1 t2 u1 u2 : Int64} {a1 a2 : Nat → Nat → Int32} {b1 b2 : Nat → Nat → Int64} {t n : Nat} {ty : FieldType} (em : fm g1 t1 u1 a1 b1 = fm g2 t2 u2 a2 b2) (k1 : (fm g1 t1 u1 a1 b1)[t]? = some (.inr (ty, n, .inl (a1 t)))) (k2 : (fm g2 t2 u2 a2 b2)[t]? = some (.inr (ty, n, .inl (a2 t)))) : a1 t = a2 t := by
  rw [em, k2] at k1
  injection k1 with k1
  injection k1 with k1
  injection k1 with _ k1
  injection k1 with _ k1
  injection k1 with k1
  exact k1.symm
theorem mkM_sem (hst : HS xt) : lw_sem l D xt gn_TY (gn_X lw_twM) ads lw_twM 6 370 [] [] (QM mkM) := by
  refine mx_sem (S := mkM) (k := 2) (n := 0) hst gn_M2_ms (fun g tp bt a b xs hx hI => ?_)
  obtain rfl := List.length_eq_zero_iff.mp hx
  obtain ⟨m, hm, em⟩ := fm_I_42 hI
  obtain ⟨v0, mem0, hF, hf⟩ := fq_mark (g := g) (tp := tp) (bt := bt) (a := a) (b := b) hI.2.1 em hm
  have hP : (fun R => ∃ (v : Int32) (g' : Nat → Int32) (a' : Nat → Nat → Int32) (b' : Nat → Nat → Int64), (m = 3 ∧ v = -1 ∧ g' = upd g 2 4 ∧ a' = a ∧ b' = b ∨ m < 3 ∧ v = nI (m + 1) ∧ g' = upd (upd g 42 (nI (m + 1))) 2 0 ∧ fm_B a' ∧ (∀ t, t ≠ 1 → a' t = a t) ∧ ∀ t, t ≠ 2 → b' t = b t) ∧ R = (some (Value.int v), fm g' tp bt a' b')) (v0, mem0) := by
    obtain ⟨v, g', a', b', hh, hR⟩ := hF
    refine ⟨v, g', a', b', ?_, hR⟩
    rcases hh with z | ⟨z1, z2, z3, z4, z5, z6⟩
    · exact Or.inl z
    · exact Or.inr ⟨z1, z2, z3, z4, z5.1, z6⟩
  obtain ⟨v, g', tp', bt', a', b', e, h1, h2⟩ := fm_I_MU (m := m) (n := m + 1) hI (by decide) (fun h => by omega) hP
  cases e
  obtain ⟨w, g2, a2, b2, hh, e2⟩ := hF
  have ev : v = w := Value.int.inj (Option.some.inj (congrArg Prod.fst e2))
  have em2 : fm g' tp' bt' a' b' = fm g2 tp bt a2 b2 := congrArg Prod.snd e2
  have e10 : g' 10 = g2 10 := Value.int.inj (Option.some.inj (fm_o_inj 10 em2))
  have e42 : g' 42 = g2 42 := Value.int.inj (Option.some.inj (fm_o_inj 42 em2))
  have ea6 : a' 6 = a2 6 := mk_row (n := 900) (ty := .byte) em2 rfl rfl
  have ea1 : a' 1 = a2 1 := mk_row (n := 5894) (ty := .int) em2 rfl rfl
  rcases hh with ⟨rfl, rfl, rfl, rfl, rfl⟩ | ⟨z1, rfl, rfl, z4, z5, z6⟩
  · exact ⟨v, g', tp', bt', a', b', hf, h1, h2, 3, by decide, em, by rw [e10]; exact pk_un (by decide), ea6, Or.inr ⟨rfl, by rw [ev], by rw [e42]; exact pk_un (by decide), ea1⟩⟩
  · exact ⟨v, g', tp', bt', a', b', hf, h1, h2, m, hm, em, by rw [e10, pk_un (by decide), pk_un (by decide)], by rw [ea6]; exact z5.1 6 (by decide), Or.inl ⟨z1, by rw [ev], by rw [e42, pk_un (by decide), pk_us], fun i hi => by rw [ea1]; exact z5.2.2 i hi, fun i hi => by rw [ea1]; exact z5.2.1 i hi⟩⟩
theorem udM_sem (hst : HS xt) : lw_sem l D xt gn_TY (gn_X lw_twM) ads lw_twM 6 371 [] [] (QM udM) := by
  refine mx_sem (S := udM) (k := 2) (n := 0) hst gn_M2_ms (fun g tp bt a b xs hx hI => ?_)
  obtain rfl := List.length_eq_zero_iff.mp hx
  obtain ⟨m, hm, em⟩ := fm_I_42 hI
  obtain ⟨v0, mem0, hF, hf⟩ := fq_undo (g := g) (tp := tp) (bt := bt) (a := a) (b := b) hI.2.1 em hm
  have hP : (fun R => ∃ (v : Int32) (g' : Nat → Int32) (a' : Nat → Nat → Int32) (b' : Nat → Nat → Int64), (m = 0 ∧ v = -1 ∧ g' = upd g 2 6 ∧ a' = a ∧ b' = b ∨ 0 < m ∧ v = nI (m - 1) ∧ g' = upd (upd g 42 (nI (m - 1))) 2 0 ∧ fm_B a' ∧ (∀ t, t ≠ 1 → a' t = a t) ∧ ∀ t, t ≠ 2 → b' t = b t) ∧ R = (some (Value.int v), fm g' tp bt a' b')) (v0, mem0) := by
    obtain ⟨v, g', a', b', hh, hR⟩ := hF
    refine ⟨v, g', a', b', ?_, hR⟩
    rcases hh with z | ⟨z1, z2, z3, z4, z5, z6⟩
    · exact Or.inl z
    · exact Or.inr ⟨z1, z2, z3, z4, z5.1, z6⟩
  obtain ⟨v, g', tp', bt', a', b', e, h1, h2⟩ := fm_I_MU (m := m) (n := m - 1) hI (by decide) (fun h => by omega) hP
  cases e
  obtain ⟨w, g2, a2, b2, hh, e2⟩ := hF
  have ev : v = w := Value.int.inj (Option.some.inj (congrArg Prod.fst e2))
  have em2 : fm g' tp' bt' a' b' = fm g2 tp bt a2 b2 := congrArg Prod.snd e2
  have e10 : g' 10 = g2 10 := Value.int.inj (Option.some.inj (fm_o_inj 10 em2))
  have e42 : g' 42 = g2 42 := Value.int.inj (Option.some.inj (fm_o_inj 42 em2))
  have ea6 : a' 6 = a2 6 := mk_row (n := 900) (ty := .byte) em2 rfl rfl
  have ea1 : a' 1 = a2 1 := mk_row (n := 5894) (ty := .int) em2 rfl rfl
  rcases hh with ⟨rfl, rfl, rfl, rfl, rfl⟩ | ⟨z1, rfl, rfl, z4, z5, z6⟩
  · exact ⟨v, g', tp', bt', a', b', hf, h1, h2, 0, by decide, em, by rw [e10]; exact pk_un (by decide), ea6, Or.inr ⟨rfl, by rw [ev], by rw [e42]; exact pk_un (by decide), ea1⟩⟩
  · obtain ⟨k, rfl⟩ : ∃ k, m = k + 1 := ⟨m - 1, by omega⟩
    exact ⟨v, g', tp', bt', a', b', hf, h1, h2, k + 1, hm, em, by rw [e10, pk_un (by decide), pk_un (by decide)], by rw [ea6]; exact z5.1 6 (by decide), Or.inl ⟨k, rfl, by rw [ev]; rfl, by rw [e42, pk_un (by decide), pk_us]; rfl, fun i hi => by rw [ea1]; exact z5.2.2 i hi, fun i hi => by rw [ea1]; exact z5.2.1 i (by omega)⟩⟩
/-! ===== hew, weigh, way, beside ===== -/
theorem hwC_sem (hxt : tk_xtok xt) {e3 : tk_I} {W : List (Nat × Nat)} (hK : KC l D xt ads 154 [0, 0, 0] [gn_i, gn_i, e3] W) : lw_sem l D xt gc_TY h3_X ads lw_twC 20 154 [0, 0, 0] [gn_i, gn_i, e3] (QC W hwC) := by
  refine cx_sem (S := hwC) (k := 3) hxt (by decide) hK (fun rest g l' a b R hr hin => ?_)
  obtain ⟨x, y, z, rfl⟩ := av3 hr
  by_cases h2 : twoN (g 15 8) x y
  · obtain ⟨X, hX, rfl, -⟩ := inN_nat (m := 10) hin.1.2.2.1.2 h2.1
    obtain ⟨Y, hY, rfl, -⟩ := inN_nat (m := 10) hin.1.2.2.1.2 h2.2.1
    have hb := fb_eq (A := a 17 X) (Y := Y) (by omega)
    by_cases hz : (a 17 X >>> (nI Y &&& 31)) &&& 1 = z
    · exact ⟨.int 0, _, l', a, b, Nat.zero_le 1, cx_of (hl_hewE hX hY h2 hz) (fun j hj => ⟨fm_un (by omega), rfl, rfl⟩), nI X, nI Y, z, rfl, ⟨rfl, fun j hj => fm_un hj⟩, fun _ _ => rfl, Or.inr ⟨X, Y, hX, hY, rfl, rfl, h2, Or.inl ⟨hb.trans hz, rfl, rfl⟩⟩⟩
    · exact ⟨.int 1, _, l', _, b, Nat.zero_le 1, cx_of (hl_hewT hX hY h2 hz) (fun j hj => ⟨fm_un (by omega), by rw [fm_un (by omega), fm_un (by omega)], rfl⟩), nI X, nI Y, z, rfl, ⟨rfl, fun j hj => fm_un hj⟩, fun j hj => by rw [fm_un hj, fm_un hj], Or.inr ⟨X, Y, hX, hY, rfl, rfl, h2, Or.inr ⟨fun e => hz (hb.symm.trans e), rfl, rfl⟩⟩⟩
  · exact ⟨.int 0, _, l', a, b, Nat.zero_le 1, cx_of (hl_hewF h2) (fun j hj => ⟨fm_un (by omega), rfl, rfl⟩), x, y, z, rfl, ⟨rfl, fun j hj => fm_un hj⟩, fun _ _ => rfl, Or.inl ⟨h2, rfl, rfl⟩⟩
theorem fm_u1r (a : Nat → Nat → Int32) (i : Nat) (v : Int32) : (fm_u a 1 i v) 1 = upd (a 1) i v := rfl
theorem hwM_sem (hst : HS xt) : lw_sem l D xt gn_TY (gn_X lw_twM) ads lw_twM 13 301 [0, 0, 0] [gn_i, gn_i, gn_i] (QM hwM) := by
  refine mx_sem (S := hwM) (k := 9) (n := 3) hst gn_M0_ms (fun g tp bt a b xs hx hI => ?_)
  obtain ⟨x, xs0, rfl, hx0⟩ := fm_xsS hx
  obtain ⟨y, xs1, rfl, hx1⟩ := fm_xsS hx0
  obtain ⟨z, xs2, rfl, hx2⟩ := fm_xsS hx1
  obtain rfl := List.length_eq_zero_iff.mp hx2
  obtain ⟨v, mem', hP, hf⟩ := fr_hew (g := g) (tp := tp) (bt := bt) (a := a) (b := b) (x := x) (y := y) (z := z) hI.2.1 (fm_I_gb hI)
  obtain ⟨v, g', tp', bt', a', b', e, h1, h2⟩ := fm_I_PW hI hP
  cases e
  obtain ⟨NC, hNC, eNC⟩ := fm_B_0 hI.2.1 (i := 0) (n := 10) (by decide) rfl
  have hN : (a 1 0).toInt ≤ (10 : Nat) := by rw [eNC, nI_i32 (by omega)]; omega
  have key : ∀ {v2 : Int32} {g2 : Nat → Int32} {a2 : Nat → Nat → Int32}, fr_T 4 301 [.ref 0, .int x, .int y, .int z] (fm g tp bt a b) (some (.int v2)) (fm g2 tp bt a2 b) → v = v2 ∧ g' 10 = g2 10 ∧ g' 42 = g2 42 ∧ a' 6 = a2 6 ∧ a' 1 = a2 1 := fun {v2 g2 a2} hr => by
    obtain ⟨d1, d2⟩ := fr_det hf hr
    have ea : ∀ t n ty, ((fm g' tp' bt' a' b')[t]? = some (.inr (ty, n, .inl (a' t)))) → ((fm g2 tp bt a2 b)[t]? = some (.inr (ty, n, .inl (a2 t)))) → a' t = a2 t := fun t n ty k1 k2 => by
      rw [d2, k2] at k1
      injection k1 with k1
      injection k1 with k1
      injection k1 with _ k1
      injection k1 with _ k1
      injection k1 with k1
      exact k1.symm
    exact ⟨Value.int.inj (Option.some.inj d1), Value.int.inj (Option.some.inj (fm_o_inj 10 d2)), Value.int.inj (Option.some.inj (fm_o_inj 42 d2)), ea 6 900 .byte rfl rfl, ea 1 5894 .int rfl rfl⟩
  refine ⟨v, g', tp', bt', a', b', hf, h1, h2, x, y, z, rfl, ?_⟩
  by_cases h3 : twoN (a 1 0) x y
  · obtain ⟨X, hX, rfl, -⟩ := inN_nat (m := 10) hN h3.1
    obtain ⟨Y, hY, rfl, -⟩ := inN_nat (m := 10) hN h3.2.1
    by_cases hz : fm_b (a 1 (10 + 6 * X)) (nI Y) = z
    · obtain ⟨e1, e2, e3, e4, e5⟩ := key (ml_hewE hX h3 hz)
      exact ⟨⟨by rw [e2, pk_un (by decide)], by rw [e3, pk_un (by decide)]⟩, e4, Or.inr ⟨X, Y, hX, hY, rfl, rfl, h3, Or.inl ⟨hz, by rw [e1], e5⟩⟩⟩
    · obtain ⟨e1, e2, e3, e4, e5⟩ := key (ml_hewT hX hY h3 hz)
      exact ⟨⟨by rw [e2, pk_un (by decide)], by rw [e3, pk_un (by decide)]⟩, by rw [e4, fm_ut (by decide), fm_ut (by decide)], Or.inr ⟨X, Y, hX, hY, rfl, rfl, h3, Or.inr ⟨hz, by rw [e1], e5⟩⟩⟩
  · obtain ⟨e1, e2, e3, e4, e5⟩ := key (ml_hewF h3)
    exact ⟨⟨by rw [e2, pk_un (by decide)], by rw [e3, pk_un (by decide)]⟩, e4, Or.inl ⟨h3, by rw [e1], e5⟩⟩
theorem wgC_sem (hxt : tk_xtok xt) {W : List (Nat × Nat)} (hK : KC l D xt ads 153 [0, 0] [gn_i, gn_i] W) : lw_sem l D xt gc_TY h3_X ads lw_twC 20 153 [0, 0] [gn_i, gn_i] (QC W wgC) := by
  refine cx_sem (S := wgC) (k := 2) hxt (by decide) hK (fun rest g l' a b R hr hin => ?_)
  obtain ⟨x, y, rfl⟩ := av2 hr
  by_cases h2 : wgN (g 26 7) x y
  · obtain ⟨X, hX, rfl, -⟩ := inN_nat (m := 8) hin.1.2.2.2.2 h2.1
    exact ⟨.int 1, _, l', _, b, Nat.zero_le 1, cx_of (hl_weiT hX h2) (fun j hj => ⟨fm_un (by omega), fm_un (by omega), rfl⟩), nI X, y, rfl, ⟨rfl, fun j hj => fm_un hj⟩, fun j hj => fm_un hj, Or.inr ⟨X, hX, rfl, h2, rfl, rfl⟩⟩
  · exact ⟨.int 0, _, l', a, b, Nat.zero_le 1, cx_of (hl_weiF h2) (fun j hj => ⟨fm_un (by omega), rfl, rfl⟩), x, y, rfl, ⟨rfl, fun j hj => fm_un hj⟩, fun _ _ => rfl, Or.inl ⟨h2, rfl, rfl⟩⟩
theorem fm_B_wg {a : Nat → Nat → Int32} (hB : fm_B a) {X : Nat} (hX : X < 8) {y : Int32} (h1 : 1 ≤ y.toInt) (h2 : y.toInt ≤ 99) : fm_B (fm_u a 1 (278 + 5 * X) y) := by
  obtain ⟨k1, ⟨k2, k3⟩, k4⟩ := hB
  have hw : ∀ X, X < 8 → (gm_at (278 + 5 * X)).1 ≤ 1 ∧ 99 ≤ (gm_at (278 + 5 * X)).2 := by decide
  refine ⟨fun i hi => ?_, ⟨fun s hs c d hc hd => ?_, fun s hs n hn => ?_⟩, fun i hi => k4 i hi⟩
  · unfold fm_bd
    rw [fm_u1r]
    by_cases e : i = 278 + 5 * X
    · rw [e, pk_us]
      have := hw X hX
      omega
    · rw [pk_un e]
      exact k1 i hi
  · rw [fm_u1r, pk_un (by omega), pk_un (by omega)]
    exact k2 s hs c d hc hd
  · rw [fm_u1r] at hn ⊢
    rw [pk_un (by omega)] at hn
    rw [pk_un (by omega), pk_un (by omega)]
    exact k3 s hs n hn
theorem wgM_sem (hst : HS xt) : lw_sem l D xt gn_TY (gn_X lw_twM) ads lw_twM 6 300 [0, 0] [gn_i, gn_i] (QM wgM) := by
  refine mx_sem (S := wgM) (k := 2) (n := 2) hst gn_M0_ms (fun g tp bt a b xs hx hI => ?_)
  obtain ⟨x, xs0, rfl, hx0⟩ := fm_xsS hx
  obtain ⟨y, xs1, rfl, hx1⟩ := fm_xsS hx0
  obtain rfl := List.length_eq_zero_iff.mp hx1
  obtain ⟨NW, hNW, eNW⟩ := fm_B_0 hI.2.1 (i := 1) (n := 8) (by decide) rfl
  have hN : (a 1 1).toInt ≤ (8 : Nat) := by rw [eNW, nI_i32 (by omega)]; omega
  have hG : ∀ st : Int32, ∀ k, (0, k) ∈ gn_M0 ∨ upd g 2 st k = g k := fun st k => by
    by_cases e : k = 2
    · subst e; exact Or.inl (List.mem_append_right _ (by decide))
    · exact Or.inr (pk_un e)
  by_cases h3 : wgN (a 1 1) x y
  · obtain ⟨X, hX, rfl, -⟩ := inN_nat (m := 8) hN h3.1
    refine ⟨1, upd g 2 0, tp, bt, fm_u a 1 (278 + 5 * X) y, b, ml_weiT hX h3, fm_I_a (fm_I_u2 hI (by decide)) (fm_B_wg hI.2.1 hX h3.2.1 h3.2.2) (fun q hq i hi => ?_), ⟨hG 0, fun t ht => Or.inr (fm_ut ht), fun t => Or.inr rfl⟩, nI X, y, rfl, ⟨pk_un (by decide), pk_un (by decide)⟩, fm_ut (by decide), Or.inr ⟨X, hX, rfl, h3, rfl, rfl⟩⟩
    have h1 : ∀ q ∈ gm_ar, q.1 ≠ 1 := by decide
    rw [fm_ut (h1 q hq)]
    exact hI.2.2 q hq i hi
  · exact ⟨0, upd g 2 1, tp, bt, a, b, ml_weiF h3, fm_I_u2 hI (by decide), ⟨hG 1, fun t ht => Or.inr rfl, fun t => Or.inr rfl⟩, x, y, rfl, ⟨pk_un (by decide), pk_un (by decide)⟩, rfl, Or.inl ⟨h3, rfl, rfl⟩⟩
theorem wyC_sem (hxt : tk_xtok xt) {W : List (Nat × Nat)} (hK : KC l D xt ads 142 [0, 0] [gn_i, gn_i] W) : lw_sem l D xt gc_TY h3_X ads lw_twC 20 142 [0, 0] [gn_i, gn_i] (QC W (wyC 17)) := by
  refine cx_sem (S := wyC 17) (k := 3) hxt (by decide) hK (fun rest g l' a b R hr hin => ?_)
  obtain ⟨x, y, rfl⟩ := av2 hr
  by_cases h2 : twoN (g 15 8) x y
  · obtain ⟨X, hX, rfl, -⟩ := inN_nat (m := 10) hin.1.2.2.1.2 h2.1
    obtain ⟨Y, hY, rfl, -⟩ := inN_nat (m := 10) hin.1.2.2.1.2 h2.2.1
    refine ⟨.int _, _, l', a, b, Nat.zero_le 1, cx_of (hl_wayT hX h2) (fun j hj => ⟨fm_un (by omega), rfl, rfl⟩), nI X, nI Y, rfl, Or.inr ⟨X, hX, rfl, h2, ?_⟩⟩
    rw [fb_eq (by omega)]
  · exact ⟨.int (-1), _, l', a, b, Nat.zero_le 1, cx_of (hl_wayF h2) (fun j hj => ⟨fm_un (by omega), rfl, rfl⟩), x, y, rfl, Or.inl ⟨h2, rfl⟩⟩
theorem wyM_sem (hst : HS xt) : lw_sem l D xt gn_TY (gn_X lw_twM) ads lw_twM 8 279 [0, 0] [gn_i, gn_i] (fun av ws ws' v => QM (wyM 10) av ws ws' v ∧ ∀ z ∈ mw_W, lw_at ws' z = lw_at ws z) := by
  refine lw_sem_imp (mx_sem (S := fun av g a g' a' v => wyM 10 av g a g' a' v ∧ g' 10 = g 10 ∧ g' 42 = g 42 ∧ a' = a) (k := 4) (n := 2) hst gn_M0_ms (fun g tp bt a b xs hx hI => ?_)) ?_
  · obtain ⟨x, xs0, rfl, hx0⟩ := fm_xsS hx
    obtain ⟨y, xs1, rfl, hx1⟩ := fm_xsS hx0
    obtain rfl := List.length_eq_zero_iff.mp hx1
    obtain ⟨NC, hNC, eNC⟩ := fm_B_0 hI.2.1 (i := 0) (n := 10) (by decide) rfl
    have hN : (a 1 0).toInt ≤ (10 : Nat) := by rw [eNC, nI_i32 (by omega)]; omega
    have hG : ∀ st : Int32, fm_ffr gn_M0 g a b (upd g 2 st) a b := fun st => ⟨fun k => by
      by_cases e : k = 2
      · subst e; exact Or.inl (List.mem_append_right _ (by decide))
      · exact Or.inr (pk_un e), fun t ht => Or.inr rfl, fun t => Or.inr rfl⟩
    by_cases h3 : twoN (a 1 0) x y
    · obtain ⟨X, hX, rfl, -⟩ := inN_nat (m := 10) hN h3.1
      exact ⟨_, upd g 2 0, tp, bt, a, b, ml_wayT hX h3, fm_I_u2 hI (by decide), hG 0, ⟨nI X, y, rfl, Or.inr ⟨X, hX, rfl, h3, rfl⟩⟩, pk_un (by decide), pk_un (by decide), rfl⟩
    · exact ⟨-1, upd g 2 1, tp, bt, a, b, ml_wayF h3, fm_I_u2 hI (by decide), hG 1, ⟨x, y, rfl, Or.inl ⟨h3, rfl⟩⟩, pk_un (by decide), pk_un (by decide), rfl⟩
  · rintro av ws ws' v - ⟨hv, g, a, g', a', h1, h2, h3, h4, q1, q2, rfl⟩
    exact ⟨⟨hv, g, a', g', a', h1, h2, h3, h4⟩, mw_unW h1 (mw_eqV h2 q1 q2 rfl (fun _ _ => rfl))⟩
theorem beC_sem (hxt : tk_xtok xt) {W : List (Nat × Nat)} (hK : KC l D xt ads 143 [0, 0] [gn_i, gn_i] W) : lw_sem l D xt gc_TY h3_X ads lw_twC 20 143 [0, 0] [gn_i, gn_i] (QC W (wyC 18)) := by
  refine cx_sem (S := wyC 18) (k := 3) hxt (by decide) hK (fun rest g l' a b R hr hin => ?_)
  obtain ⟨x, y, rfl⟩ := av2 hr
  by_cases h2 : twoN (g 15 8) x y
  · obtain ⟨X, hX, rfl, -⟩ := inN_nat (m := 10) hin.1.2.2.1.2 h2.1
    obtain ⟨Y, hY, rfl, -⟩ := inN_nat (m := 10) hin.1.2.2.1.2 h2.2.1
    refine ⟨.int _, _, l', a, b, Nat.zero_le 1, cx_of (hl_besT hX h2) (fun j hj => ⟨fm_un (by omega), rfl, rfl⟩), nI X, nI Y, rfl, Or.inr ⟨X, hX, rfl, h2, ?_⟩⟩
    rw [fb_eq (by omega)]
  · exact ⟨.int (-1), _, l', a, b, Nat.zero_le 1, cx_of (hl_besF h2) (fun j hj => ⟨fm_un (by omega), rfl, rfl⟩), x, y, rfl, Or.inl ⟨h2, rfl⟩⟩
theorem beM_sem (hst : HS xt) : lw_sem l D xt gn_TY (gn_X lw_twM) ads lw_twM 8 280 [0, 0] [gn_i, gn_i] (fun av ws ws' v => QM (wyM 11) av ws ws' v ∧ ∀ z ∈ mw_W, lw_at ws' z = lw_at ws z) := by
  refine lw_sem_imp (mx_sem (S := fun av g a g' a' v => wyM 11 av g a g' a' v ∧ g' 10 = g 10 ∧ g' 42 = g 42 ∧ a' = a) (k := 4) (n := 2) hst gn_M0_ms (fun g tp bt a b xs hx hI => ?_)) ?_
  · obtain ⟨x, xs0, rfl, hx0⟩ := fm_xsS hx
    obtain ⟨y, xs1, rfl, hx1⟩ := fm_xsS hx0
    obtain rfl := List.length_eq_zero_iff.mp hx1
    obtain ⟨NC, hNC, eNC⟩ := fm_B_0 hI.2.1 (i := 0) (n := 10) (by decide) rfl
    have hN : (a 1 0).toInt ≤ (10 : Nat) := by rw [eNC, nI_i32 (by omega)]; omega
    have hG : ∀ st : Int32, fm_ffr gn_M0 g a b (upd g 2 st) a b := fun st => ⟨fun k => by
      by_cases e : k = 2
      · subst e; exact Or.inl (List.mem_append_right _ (by decide))
      · exact Or.inr (pk_un e), fun t ht => Or.inr rfl, fun t => Or.inr rfl⟩
    by_cases h3 : twoN (a 1 0) x y
    · obtain ⟨X, hX, rfl, -⟩ := inN_nat (m := 10) hN h3.1
      exact ⟨_, upd g 2 0, tp, bt, a, b, ml_besT hX h3, fm_I_u2 hI (by decide), hG 0, ⟨nI X, y, rfl, Or.inr ⟨X, hX, rfl, h3, rfl⟩⟩, pk_un (by decide), pk_un (by decide), rfl⟩
    · exact ⟨-1, upd g 2 1, tp, bt, a, b, ml_besF h3, fm_I_u2 hI (by decide), hG 1, ⟨x, y, rfl, Or.inl ⟨h3, rfl⟩⟩, pk_un (by decide), pk_un (by decide), rfl⟩
  · rintro av ws ws' v - ⟨hv, g, a, g', a', h1, h2, h3, h4, q1, q2, rfl⟩
    exact ⟨⟨hv, g, a', g', a', h1, h2, h3, h4⟩, mw_unW h1 (mw_eqV h2 q1 q2 rfl (fun _ _ => rfl))⟩
end WRQ
end MH23_4
section MH23_5
/-! ===== pour of the model, exact: what is looked at stays ===== -/
def gn_MP : List (Nat × Nat) := (5, 0) :: gn_M0
theorem gn_MP_ms : fm_ms gn_MP := ⟨fun r hr => List.mem_cons_of_mem _ (gn_M0_ms.1 r hr), List.mem_cons_of_mem _ gn_M0_ms.2.1, List.mem_cons_of_mem _ gn_M0_ms.2.2⟩
section PRK
variable {l : Launch} {D : va_G} {xt : tk_XT} {ads : List Nat}
theorem kp_pour (hst : HS xt) : lw_sem l D xt gn_TY (gn_X lw_twM) ads lw_twM 6 217 [0, 0, 0, 0, 0] [gn_i, gn_i, gn_i, gn_i, gn_i] (lw_unQ 0 mw_W) := by
  refine lw_sem_imp (mx_sem (S := fun _ g a g' a' _ => g' 10 = g 10 ∧ g' 42 = g 42 ∧ a' = a) (k := 2) (n := 5) hst gn_MP_ms (fun g tp bt a b xs hx hI => ?_)) ?_
  · obtain ⟨x, xs0, rfl, hx0⟩ := fm_xsS hx
    obtain ⟨p, xs1, rfl, hx1⟩ := fm_xsS hx0
    obtain ⟨y, xs2, rfl, hx2⟩ := fm_xsS hx1
    obtain ⟨q, xs3, rfl, hx3⟩ := fm_xsS hx2
    obtain ⟨n, xs4, rfl, hx4⟩ := fm_xsS hx3
    obtain rfl := List.length_eq_zero_iff.mp hx4
    obtain ⟨v0, mem0, hP, hf⟩ := ma_pour (g := g) (tp := tp) (bt := bt) (a := a) (b := b) (x := x) (p := p) (y := y) (q := q) (n := n) (fun t ht => hI.2.2 (4, 4, (-1), 60) (by decide) t ht)
    obtain ⟨z, st, b', hst2, hh, hR⟩ := hP
    cases hR
    have hb5 : ∀ t, t ≠ 5 → b' t = b t := fun t e => by
      rcases hh with ⟨_, _, _, _, _, -, -, -, -, -, -, -, -, -, -, -, hb⟩ | ⟨-, -, hb⟩
      · rw [hb]; exact fm_uf_n e
      · rw [hb]
    have hG : fm_ffr gn_MP g a b (upd g 2 st) a b' := ⟨fun k => by
      by_cases e : k = 2
      · subst e; exact Or.inl (List.mem_cons_of_mem _ (List.mem_append_right _ (by decide)))
      · exact Or.inr (pk_un e), fun t ht => Or.inr rfl, fun t => by
      by_cases e : t = 5
      · subst e; exact Or.inl List.mem_cons_self
      · exact Or.inr (hb5 t e)⟩
    exact ⟨z, upd g 2 st, tp, bt, a, b', hf, fm_I_u2 hI hst2, hG, pk_un (by decide), pk_un (by decide), rfl⟩
  · rintro av ws ws' v - ⟨hv, g, a, g', a', h1, h2, -, q1, q2, rfl⟩
    exact ⟨hv, mw_unW h1 (mw_eqV h2 q1 q2 rfl (fun _ _ => rfl))⟩
end PRK
end MH23_5
