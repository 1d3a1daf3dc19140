/-! ===== the law: the two typed worlds behind the constructors ===== -/
def lc_ro : Nat → Nat → Int → Prop := fun _ _ _ => True
def lc_v (TY : tk_TT) (tw : List Nat) (off t i : Nat) (f : tk_F) (v : rk_V) : Bool := match f.1, v with
  | 0, .inl (.int x) => decide (f.2.1 ≤ x.toInt) && decide (x.toInt ≤ f.2.2)
  | 4, .inl (.int x) => decide (f.2.1 ≤ x.toInt) && decide (x.toInt ≤ f.2.2)
  | 3, .inl (.int x) => decide ((TY.2.1 f.2.1.toNat i).1 ≤ x.toInt) && decide (x.toInt ≤ (TY.2.1 f.2.1.toNat i).2)
  | 1, .inl (.long x) => decide (f.2.1 ≤ x.toInt) && decide (x.toInt ≤ f.2.2)
  | 5, .inl (.long x) => decide (f.2.1 ≤ x.toInt) && decide (x.toInt ≤ f.2.2)
  | 6, .inl (.long x) => decide (f.2.1 ≤ x.toInt) && decide (x.toInt ≤ f.2.2)
  | 2, .inr (.inl j) => Nat.ble off j && (match tw[j - off]? with
    | some u => Nat.beq u (f.2.1.toNat + i * f.2.2.toNat)
    | none => false)
  | _, _ => false
def lc_fs (TY : tk_TT) (tw : List Nat) (off t : Nat) : Nat → List tk_F → List rk_V → Bool
  | _, [], [] => true
  | i, f :: fs, v :: vs => lc_v TY tw off t i f v && lc_fs TY tw off t (i + 1) fs vs
  | _, _, _ => false
def lc_c (TY : tk_TT) (tw : List Nat) (off t : Nat) (c : rk_H) : Bool := match TY.1[t]?, c with
  | some (.inl o), .inl q => Nat.beq o.1 q.1 && lc_fs TY tw off t 0 o.2 q.2
  | some (.inr q), .inr d => decide (q.1 = d.1) && (Nat.beq q.2.1 d.2.1 && (List.range q.2.1).all (fun i => lc_v TY tw off t i q.2.2 (rk_look d.2.2.1 d.2.2.2 i)))
  | _, _ => false
section LC
variable {TY : tk_TT} {s : State} {vals : List Value} {ads ads' tw : List Nat} {off : Nat}
theorem lc_v_ok (ha : ∀ j : Nat, j < tw.length → ads'[j]? = ads[off + j]?) {t i : Nat} {f : tk_F} {v : rk_V} {w : Value} (hg : rk_g vals ads v w) (h : lc_v TY tw off t i f v = true) : tk_fv lc_ro TY.2.1 ads' tw t i f w := by
  unfold lc_v at h
  split at h
  · next h1 =>
    rw [Bool.and_eq_true, decide_eq_true_eq, decide_eq_true_eq] at h
    have hg : w = .int _ := hg
    subst hg
    unfold tk_fv
    rw [h1]
    exact ⟨_, rfl, h.1, h.2⟩
  · next h1 =>
    rw [Bool.and_eq_true, decide_eq_true_eq, decide_eq_true_eq] at h
    have hg : w = .int _ := hg
    subst hg
    unfold tk_fv
    rw [h1]
    exact ⟨_, rfl, h.1, h.2, trivial⟩
  · next h1 =>
    rw [Bool.and_eq_true, decide_eq_true_eq, decide_eq_true_eq] at h
    have hg : w = .int _ := hg
    subst hg
    unfold tk_fv
    rw [h1]
    exact ⟨_, rfl, h.1, h.2⟩
  · next h1 =>
    rw [Bool.and_eq_true, decide_eq_true_eq, decide_eq_true_eq] at h
    have hg : w = .long _ := hg
    subst hg
    unfold tk_fv
    rw [h1]
    exact ⟨_, rfl, h.1, h.2⟩
  · next h1 =>
    rw [Bool.and_eq_true, decide_eq_true_eq, decide_eq_true_eq] at h
    have hg : w = .long _ := hg
    subst hg
    unfold tk_fv
    rw [h1]
    exact ⟨_, rfl, h.1, h.2, trivial⟩
  · next h1 =>
    rw [Bool.and_eq_true, decide_eq_true_eq, decide_eq_true_eq] at h
    have hg : w = .long _ := hg
    subst hg
    unfold tk_fv
    rw [h1]
    exact ⟨_, rfl, h.1, h.2⟩
  · next h1 =>
    rw [Bool.and_eq_true] at h
    obtain ⟨h2, h3⟩ := h
    split at h3
    · next u hu =>
      obtain ⟨x, hx, rfl⟩ := hg
      unfold tk_fv
      rw [h1]
      have hle := Nat.le_of_ble_eq_true h2
      have hlt := (List.getElem?_eq_some_iff.mp hu).1
      refine ⟨x, rfl, _, ?_, by rw [hu, Nat.eq_of_beq_eq_true h3]⟩
      rw [ha _ hlt, Nat.add_sub_of_le hle]
      exact hx
    · cases h3
  · cases h
theorem lc_fs_ok (ha : ∀ j : Nat, j < tw.length → ads'[j]? = ads[off + j]?) {t : Nat} : ∀ {fs : List tk_F} {vs : List rk_V} {ws : List Value} (i0 : Nat), rk_A2 (rk_g vals ads) vs ws → lc_fs TY tw off t i0 fs vs = true → ws.length = fs.length ∧ ∀ (i : Nat) (f : tk_F) (w : Value), fs[i]? = some f → ws[i]? = some w → tk_fv lc_ro TY.2.1 ads' tw t (i0 + i) f w := by
  intro fs
  induction fs with
  | nil =>
    intro vs ws i0 hg h
    cases vs with
    | nil => rw [hg.nil]; exact ⟨rfl, fun i f w h1 => by cases h1⟩
    | cons v vs => cases h
  | cons f fs ih =>
    intro vs ws i0 hg h
    cases vs with
    | nil => cases h
    | cons v vs =>
      obtain ⟨w, k, rfl, g1, g2⟩ := hg.cons
      have h := Bool.and_eq_true_iff.mp (show (lc_v TY tw off t i0 f v && lc_fs TY tw off t (i0 + 1) fs vs) = true from h)
      obtain ⟨q1, q2⟩ := ih (i0 + 1) g2 h.2
      refine ⟨by rw [List.length_cons, List.length_cons, q1], fun i f' w' h1 h2 => ?_⟩
      cases i with
      | zero =>
        cases h1
        cases h2
        exact lc_v_ok ha g1 h.1
      | succ i =>
        have := q2 i f' w' h1 h2
        rw [show i0 + 1 + i = i0 + (i + 1) by omega] at this
        exact this
theorem lc_c_ok (ha : ∀ j : Nat, j < tw.length → ads'[j]? = ads[off + j]?) {t : Nat} {c : rk_H} {e : va_E} (hc : rk_c s vals ads c e) (h : lc_c TY tw off t c = true) : tk_cl TY lc_ro ads' tw s t e := by
  unfold lc_c at h
  split at h
  · next o q ho =>
    rw [Bool.and_eq_true] at h
    obtain ⟨vs, rfl, hvs⟩ := hc
    obtain ⟨q1, q2⟩ := lc_fs_ok ha 0 hvs h.2
    unfold tk_cl
    rw [ho]
    refine ⟨vs, by rw [Nat.eq_of_beq_eq_true h.1], q1, fun i f v h1 h2 => ?_⟩
    have := q2 i f v h1 h2
    rw [Nat.zero_add] at this
    exact this
  · next q d hq =>
    rw [Bool.and_eq_true, Bool.and_eq_true, decide_eq_true_eq] at h
    obtain ⟨cA, k1, k2, k3⟩ := hc
    obtain ⟨h1, h2, h3⟩ := h
    have h2 := Nat.eq_of_beq_eq_true h2
    unfold tk_cl
    rw [hq]
    refine ⟨cA, by rw [h1]; exact k1, by rw [h1]; exact k2, ?_⟩
    have hall : ∀ i, i < q.2.1 → lc_v TY tw off t i q.2.2 (rk_look d.2.2.1 d.2.2.2 i) = true := fun i hi => List.all_eq_true.mp h3 i (List.mem_range.mpr hi)
    unfold rk_arr at k3
    unfold tk_ar
    rw [h1]
    cases hk : d.1
    all_goals
      rw [hk] at k3
      first
        | exact k3.elim
        | (obtain ⟨f, e1, hf⟩ := k3
           exact ⟨f, by rw [h2]; exact e1, fun i hi => lc_v_ok ha (hf i) (hall i hi)⟩)
  · cases h
end LC
def lw_twC : List Nat := [0, 1, 2, 2, 2, 2, 3, 4, 5, 6, 7, 8, 9, 10, 11, 12, 13, 14, 15, 16, 17, 18, 19, 20, 21, 22, 23, 24, 25, 26, 27, 28, 29, 30, 31, 32, 33, 34, 35, 36, 37, 38, 39, 40, 41, 42, 43, 44, 45, 46, 47, 48, 49, 50, 51, 52, 53, 54, 55, 56, 57, 58, 59, 60, 61, 62, 63, 64, 91, 92, 93, 94, 95, 96, 97, 202, 203, 204, 205, 206, 207, 98, 99, 100, 101, 102, 103, 104, 105, 106, 107, 108, 109, 110, 111, 112, 113, 114, 115, 116, 117, 118, 119, 120, 121, 122, 123, 124, 125, 126, 127, 128, 129, 130, 131, 132, 133, 134, 135, 136, 137, 138, 139, 140, 141, 142, 143, 144, 145, 146, 147, 148, 149, 150, 151, 152, 153, 154, 155, 156, 157, 158, 159, 160, 161, 162, 163, 164, 165, 166, 167, 168, 169, 170, 171, 172, 173, 174, 175, 176, 177, 178, 179, 180, 181, 182, 183, 184, 185, 186, 187, 188, 189, 190, 191, 192, 193, 194, 195, 196, 197, 198, 199, 200, 201, 208, 209, 210, 211, 212, 213, 214, 65, 66, 67, 68, 69, 70, 71, 72, 73, 74, 75, 76, 77, 78, 79, 80, 81, 82, 83, 84, 85, 86, 87, 88, 89, 90, 65, 66, 67, 68, 69, 70, 71, 72, 73, 74, 75, 76, 77, 78, 79, 80, 81, 82, 83, 84, 85, 86, 87, 88, 89, 90, 65, 66, 67, 68, 69, 70, 71, 72, 73, 74, 75, 76, 77, 78, 79, 80, 81, 82, 83, 84, 85, 86, 87, 88, 89, 90]
def lw_twM : List Nat := List.range 22
set_option maxRecDepth 100000 in
theorem lw_lenC : lw_twC.length = 270 := by decide +kernel
theorem lw_ltC {j t : Nat} (h : lw_twC[j]? = some t) : j < 270 := by
  have := (List.getElem?_eq_some_iff.mp h).1
  rw [lw_lenC] at this
  exact this
theorem lw_ltM {j t : Nat} (h : lw_twM[j]? = some t) : j < 22 := by
  have := (List.getElem?_eq_some_iff.mp h).1
  rw [show lw_twM.length = 22 from List.length_range] at this
  exact this
def lc_all (TY : tk_TT) (tw : List Nat) (off : Nat) (hp : List rk_H) : Bool := (List.range tw.length).all (fun i => match tw[i]?, hp[off + i]? with
  | some t, some c => lc_c TY tw off t c
  | _, _ => false)
set_option maxRecDepth 1000000 in
theorem lc_C : lc_all gc_TY lw_twC 0 gk_hp = true := by decide +kernel
set_option maxRecDepth 1000000 in
theorem lc_M : lc_all gm_TY lw_twM 270 gk_hp = true := by decide +kernel
theorem lw_gcU : gc_U lw_twC := by
  have h : (List.range 270).all (fun j => (List.range 270).all (fun k => !(decide (lw_twC[j]? = some gc_dr.1)) || (!(decide (lw_twC[k]? = some gc_dr.1)) || Nat.beq j k))) = true := by decide +kernel
  intro j j' h1 h2
  have l1 : j < 270 := lw_ltC h1
  have l2 : j' < 270 := lw_ltC h2
  have := List.all_eq_true.mp (List.all_eq_true.mp h j (List.mem_range.mpr l1)) j' (List.mem_range.mpr l2)
  rw [h1, h2] at this
  simp at this
  exact this
/-- a TALES of the start: no row; where its arrays are -/
def lc_tl (c : Option rk_H) : Option (Nat × Nat) := match c with
  | some (.inl o) => (match (o.2[0]? : Option rk_V), (o.2[2]? : Option rk_V), (o.2[6]? : Option rk_V) with
    | some (.inr (.inl a)), some (.inr (.inl b)), some (.inl (.int x)) => if x = 0 then some (a, b) else none
    | _, _, _ => none)
  | _ => none
theorem lc_tl_ok {c : Option rk_H} {a b : Nat} (h : lc_tl c = some (a, b)) : ∃ o : Nat × List rk_V, c = some (.inl o) ∧ o.2[0]? = some (.inr (.inl a)) ∧ o.2[2]? = some (.inr (.inl b)) ∧ o.2[6]? = some (.inl (.int 0)) := by
  unfold lc_tl at h
  split at h
  · next o =>
    split at h
    · next a' b' x h0 h2 h6 =>
      split at h
      · next hx =>
        cases h
        subst hx
        exact ⟨o, rfl, h0, h2, h6⟩
      · cases h
    · cases h
  · cases h
def lc_X1 : Bool := (List.range 270).all (fun j => match lw_twC[j]? with
  | some t => !(gc_rl.any (fun q => Nat.beq q.1 t)) || (lc_tl gk_hp[j]?).isSome
  | none => true)
set_option maxRecDepth 1000000 in
theorem lc_X1_ok : lc_X1 = true := by decide +kernel
def lc_X2 : Bool := (List.range 270).all (fun j => (List.range 270).all (fun k => match lw_twC[j]?, lw_twC[k]? with
  | some t, some u => !(Nat.beq t u) || (!(gc_rl.any (fun q => Nat.beq q.1 t)) || (Nat.beq j k || (match lc_tl gk_hp[j]?, lc_tl gk_hp[k]? with
    | some a, some b => !(Nat.beq a.1 b.1) && !(Nat.beq a.2 b.2)
    | _, _ => false)))
  | _, _ => true))
set_option maxRecDepth 1000000 in
theorem lc_X2_ok : lc_X2 = true := by decide +kernel
section LCX
variable {s : State} {vals : List Value} {ws : va_W} {A : Nat → Prop}
/-- a cell of the class at the start -/
theorem lc_cell (hC : rk_A2 (fun c (q : Nat × va_E) => rk_c s vals (ws.map Prod.fst) c q.2) gk_hp ws) {j y : Nat} {e : va_E} (hw : ws[j]? = some (y, e)) {a b : Nat} (h : lc_tl gk_hp[j]? = some (a, b)) : ∃ xa xb : Nat, (ws.map Prod.fst)[a]? = some xa ∧ (ws.map Prod.fst)[b]? = some xb ∧ tk_pos e 0 = some (.ref xa) ∧ tk_pos e 2 = some (.ref xb) ∧ tk_pos e 6 = some (.int 0) := by
  obtain ⟨o, h1, h2, h3, h4⟩ := lc_tl_ok h
  obtain ⟨q, k1, k2⟩ := hC.get h1
  rw [hw] at k1
  cases k1
  obtain ⟨vs, e1, hvs⟩ := k2
  have e1 : e = .inr (o.1, vs) := e1
  subst e1
  obtain ⟨v0, g0, x0, p0, rfl⟩ := hvs.get h2
  obtain ⟨v2, g2, x2, p2, rfl⟩ := hvs.get h3
  obtain ⟨v6, g6, p6⟩ := hvs.get h4
  have p6 : v6 = .int 0 := p6
  subst p6
  exact ⟨x0, x2, p0, p2, g0, g2, g6⟩
theorem lc_at {t j : Nat} (ht : lw_twC[j]? = some t) {to ta : Nat} (hq : (t, to, ta) ∈ gc_rl) : ∃ a b, lc_tl gk_hp[j]? = some (a, b) := by
  have hj : j < 270 := lw_ltC ht
  have h := List.all_eq_true.mp lc_X1_ok j (List.mem_range.mpr hj)
  rw [ht] at h
  have h2 : gc_rl.any (fun q => Nat.beq q.1 t) = true := List.any_eq_true.mpr ⟨_, hq, Nat.beq_refl t⟩
  dsimp only at h
  rw [h2] at h
  have h3 : (lc_tl gk_hp[j]?).isSome = true := h
  obtain ⟨z, hz⟩ := Option.isSome_iff_exists.mp h3
  exact ⟨z.1, z.2, hz⟩
theorem lc_gcX (hC : rk_A2 (fun c (q : Nat × va_E) => rk_c s vals (ws.map Prod.fst) c q.2) gk_hp ws) (hD : va_D A ws) : gc_X lw_twC (ws.take 270) := by
  have hg : ∀ {j y : Nat} {e : va_E}, (ws.take 270)[j]? = some (y, e) → ws[j]? = some (y, e) := fun {j y e} h => by
    rw [List.getElem?_take] at h
    split at h
    · exact h
    · cases h
  refine ⟨?_, ?_⟩
  · intro t to ta j jo ja y yo ya r e eo ea n x v hq _ hj hjo hja hw hwo hwa p0 p2 p6 hr px pv hx
    obtain ⟨a, b, h⟩ := lc_at hj hq
    obtain ⟨xa, xb, k1, k2, k3, k4, k5⟩ := lc_cell hC (hg hw) h
    rw [k5] at p6
    cases p6
    exact absurd hr (by show ¬ ((r : Int) < 0); omega)
  · intro t to ta j1 j2 y1 y2 yo k e1 e2 hq hk hj1 hj2 hw1 hw2 p1 p2
    by_cases hne : j1 = j2
    · exact hne
    exfalso
    obtain ⟨a1, b1, h1⟩ := lc_at hj1 hq
    obtain ⟨a2, b2, h2⟩ := lc_at hj2 hq
    obtain ⟨xa1, xb1, m1, m2, m3, m4, -⟩ := lc_cell hC (hg hw1) h1
    obtain ⟨xa2, xb2, n1, n2, n3, n4, -⟩ := lc_cell hC (hg hw2) h2
    have hb1 : j1 < 270 := lw_ltC hj1
    have hb2 : j2 < 270 := lw_ltC hj2
    have hc := List.all_eq_true.mp (List.all_eq_true.mp lc_X2_ok j1 (List.mem_range.mpr hb1)) j2 (List.mem_range.mpr hb2)
    rw [hj1, hj2, h1, h2] at hc
    have hany : gc_rl.any (fun q => Nat.beq q.1 t) = true := List.any_eq_true.mpr ⟨_, hq, Nat.beq_refl t⟩
    dsimp only at hc
    rw [hany, Nat.beq_refl] at hc
    simp [hne] at hc
    have key : ∀ {p q x : Nat}, (ws.map Prod.fst)[p]? = some x → (ws.map Prod.fst)[q]? = some x → p = q := by
      intro p q x hp hq
      rw [List.getElem?_map] at hp hq
      obtain ⟨z1, hz1, e1⟩ := Option.map_eq_some_iff.mp hp
      obtain ⟨z2, hz2, e2⟩ := Option.map_eq_some_iff.mp hq
      exact hD.1 p q z1 z2 hz1 hz2 (by rw [e1, e2])
    rcases hk with rfl | rfl
    · rw [m3] at p1
      rw [n3] at p2
      cases p1
      cases p2
      have e := key m1 n1; subst e; rw [Nat.beq_refl] at hc; cases hc.1
    · rw [m4] at p1
      rw [n4] at p2
      cases p1
      cases p2
      have e := key m2 n2; subst e; rw [Nat.beq_refl] at hc; cases hc.2
/-- at[] at the start: no ways, no TALES -/
def lc_at0 : Bool := match (gk_hp[271]? : Option rk_H) with
  | some (.inr d) => decide (d.1 = .int) && ((List.range 7).all (fun s => (List.range 10).all (fun c => decide (rk_look d.2.2.1 d.2.2.2 (842 * s + 10 + 6 * c) = .inl (.int 0)))) && (List.range 4).all (fun s => decide (rk_look d.2.2.1 d.2.2.2 (842 * s + 6) = .inl (.int (-1))) || decide (rk_look d.2.2.1 d.2.2.2 (842 * s + 6) = .inl (.int 0))))
  | _ => false
set_option maxRecDepth 1000000 in
theorem lc_at0_ok : lc_at0 = true := by decide +kernel
theorem lc_gnX (hC : rk_A2 (fun c (q : Nat × va_E) => rk_c s vals (ws.map Prod.fst) c q.2) gk_hp ws) : gn_X lw_twM (ws.drop 270) := by
  intro j y e hj hw f hff _
  have hb : j < 22 := lw_ltM hj
  have e1 : j = 1 := by
    have : ∀ j, j < 22 → lw_twM[j]? = some 1 → j = 1 := by decide
    exact this j hb hj
  subst e1
  rw [List.getElem?_drop] at hw
  have h := lc_at0_ok
  unfold lc_at0 at h
  split at h
  · next d hd =>
    obtain ⟨q, k1, k2⟩ := hC.get hd
    rw [show 270 + 1 = 271 from rfl, k1] at hw
    cases hw
    obtain ⟨cA, -, -, k3⟩ := k2
    rw [Bool.and_eq_true, Bool.and_eq_true, decide_eq_true_eq] at h
    obtain ⟨h1, h2, h3⟩ := h
    unfold rk_arr at k3
    rw [h1] at k3
    obtain ⟨f2, e2, hf⟩ := k3
    subst e2
    have hd2 : d.2.1 = 5894 := by
      have h : (gk_hp[271]? : Option rk_H).any (fun c => match c with
        | .inr d => Nat.beq d.2.1 5894
        | _ => false) = true := by decide +kernel
      rw [hd] at h
      exact Nat.eq_of_beq_eq_true h
    have ef : ∀ i, i < 5894 → gn_xp i = true → f i = f2 i := fun i hi hx => by
      have h := hff i hi hx
      have h : (if i < d.2.1 then some (Value.int (f2 i)) else none) = some (Value.int (f i)) := h
      rw [if_pos (by omega)] at h
      exact (Value.int.inj (Option.some.inj h)).symm
    have w0 : ∀ s c, s < 7 → c < 10 → f (842 * s + 10 + 6 * c) = 0 := fun s c hs hc => by
      rw [ef _ (by omega) (gn_xp_w s hs c hc)]
      have e := of_decide_eq_true (List.all_eq_true.mp (List.all_eq_true.mp h2 s (List.mem_range.mpr hs)) c (List.mem_range.mpr hc))
      have g := hf (842 * s + 10 + 6 * c)
      rw [e] at g
      have g : Value.int (f2 (842 * s + 10 + 6 * c)) = .int 0 := g
      exact Value.int.inj g
    have w6 : ∀ s, s < 4 → (f (842 * s + 6)).toInt ≤ 0 := fun s hs => by
      rw [ef _ (by omega) (gn_xp_6 s hs)]
      have e := List.all_eq_true.mp h3 s (List.mem_range.mpr hs)
      rw [Bool.or_eq_true, decide_eq_true_eq, decide_eq_true_eq] at e
      have g := hf (842 * s + 6)
      rcases e with e | e
      · rw [e] at g
        have g : Value.int (f2 (842 * s + 6)) = .int (-1) := g
        rw [Value.int.inj g]; decide
      · rw [e] at g
        have g : Value.int (f2 (842 * s + 6)) = .int 0 := g
        rw [Value.int.inj g]; decide
    refine ⟨fun s hs c d hc hd => ?_, fun s hs n hn => ?_⟩
    · show fm_b (f (842 * s + 10 + 6 * c)) (nI d) = fm_b (f (842 * s + 10 + 6 * d)) (nI c)
      rw [w0 s c hs hc, w0 s d hs hd]
      have : ∀ c, c < 10 → fm_b 0 (nI c) = 0 := by decide
      rw [this c hc, this d hd]
    · have hn : (n : Int) < (f (842 * s + 6)).toInt := hn
      have := w6 s hs
      omega
  · cases h
end LCX
