/-! ===== the class: what holds of TALES: a STEP of a row that counts has a number of 1 to 20 ===== -/
def gc_XA (P : Nat → Prop) (tw : List Nat) (ws : va_W) : Prop := ∀ (t to ta j jo ja y yo ya r : Nat) (e eo ea : va_E) (n x v : Int32), (t, to, ta) ∈ gc_rl → P j → tw[j]? = some t → tw[jo]? = some to → tw[ja]? = some ta → ws[j]? = some (y, e) → ws[jo]? = some (yo, eo) → ws[ja]? = some (ya, ea) → tk_pos e 0 = some (.ref yo) → tk_pos e 2 = some (.ref ya) → tk_pos e 6 = some (.int n) → (r : Int) < n.toInt → tk_pos eo r = some (.int x) → tk_pos ea r = some (.int v) → x.toInt = 13 → 1 ≤ v.toInt ∧ v.toInt ≤ 20
/-- two TALES of one kind have two rows of arrays -/
def gc_XS (tw : List Nat) (ws : va_W) : Prop := ∀ (t to ta j1 j2 y1 y2 yo k : Nat) (e1 e2 : va_E), (t, to, ta) ∈ gc_rl → (k = 0 ∨ k = 2) → tw[j1]? = some t → tw[j2]? = some t → ws[j1]? = some (y1, e1) → ws[j2]? = some (y2, e2) → tk_pos e1 k = some (.ref yo) → tk_pos e2 k = some (.ref yo) → j1 = j2
def gc_X (tw : List Nat) (ws : va_W) : Prop := gc_XA (fun _ => True) tw ws ∧ gc_XS tw ws
def gc_U (tw : List Nat) : Prop := ∀ j j' : Nat, tw[j]? = some gc_dr.1 → tw[j']? = some gc_dr.1 → j = j'
/-- an array's place at or behind the count -/
def gc_gA (st : tk_S) (fld r : Nat) (key : tk_V) : Bool := st.2.2.2.2.any (fun q => tk_kq q.2.1 (tk_ky fld) && (Nat.beq q.2.2.1 2 && (Nat.beq q.2.2.2.1 r && ((match st.2.2.2.1[q.1]? with
  | some t => Nat.beq t gc_dr.1
  | none => false) && (match tk_fl st.2.2.2.2 q.1 (tk_ky 6) with
  | some c => Nat.beq c.1 0 && tk_le st.2.2.1.1 st.2.2.1.2 c key 0
  | none => false)))))
def gc_gI (st : tk_S) (r : Nat) (c : tk_V) (fld : Nat) (P : tk_I → Bool) : Bool := match tk_fl st.2.2.2.2 r (tk_ky fld) with
  | some a => Nat.beq a.1 2 && (match tk_fl st.2.2.2.2 a.2.1 c with
    | some o => Nat.beq o.1 0 && (match tk_iv st.2.2.1.1 o with
      | some J => P J
      | none => false)
    | none => false)
  | none => false
/-- the count: not more than it was, or one more and the row is good -/
def gc_gC (st : tk_S) (r : Nat) (v : tk_V) : Bool := match tk_iv st.2.2.1.1 v with
  | some I => decide (I.2 ≤ 0) || (match tk_fl st.2.2.2.2 r (tk_ky 6) with
    | some c => Nat.beq c.1 0 && (tk_le st.2.2.1.1 st.2.2.1.2 v c 0 || (tk_le st.2.2.1.1 st.2.2.1.2 v c (-1) && (gc_gI st r c 0 (fun J => decide (J.2 < 13) || decide (13 < J.1)) || gc_gI st r c 2 (fun J => decide (1 ≤ J.1) && decide (J.2 ≤ 20)))))
    | none => false)
  | none => false
def gc_G : tk_S → Nat → Nat → tk_V → tk_V → Bool := fun st t r key v => (Nat.beq t gc_dr.2.1 && gc_gA st 0 r key) || ((Nat.beq t gc_dr.2.2 && gc_gA st 2 r key) || (gc_rl.any (fun q => Nat.beq q.1 t) && (tk_kq key (tk_ky 6) && (Nat.beq v.1 0 && gc_gC st r v))))
def gc_TY : tk_TT := (gc_ty, gc_reg, gc_rgn, gc_FX, gc_G)
theorem gc_rl_ok : ∀ q ∈ gc_rl, ((q.1, 0) ∈ gc_FX ∧ (q.1, 2) ∈ gc_FX ∧ (q.1, 6) ∈ gc_FX ∧ (q.2.1, 0) ∈ gc_FX ∧ (q.2.2, 0) ∈ gc_FX) ∧ gc_rgn q.1 = some gc_id ∧ gc_rgn q.2.1 = none ∧ gc_rgn q.2.2 = none := by
  intro q hq
  simp only [gc_rl, List.mem_cons, List.not_mem_nil, or_false] at hq
  rcases hq with rfl | rfl | rfl
  all_goals exact ⟨by decide +kernel, rfl, rfl, rfl⟩
/-- arrays of TALES are no TALES; they are of one TALES' kind -/
theorem gc_rl_ne : ∀ q ∈ gc_rl, ∀ q' ∈ gc_rl, ¬ q.1 = q'.2.1 ∧ ¬ q.1 = q'.2.2 ∧ ¬ q.2.1 = q'.2.2 ∧ (q.2.1 = q'.2.1 → q = q') ∧ (q.2.2 = q'.2.2 → q = q') := by decide +kernel
theorem gc_dr_in : gc_dr ∈ gc_rl := by decide +kernel
theorem gc_map_back {ws ws' : va_W} (h : ws'.map Prod.fst = ws.map Prod.fst) {j y : Nat} {e : va_E} (hj : ws'[j]? = some (y, e)) : ∃ e0, ws[j]? = some (y, e0) := by
  have h1 : (ws'.map Prod.fst)[j]? = some y := by rw [List.getElem?_map, hj]; rfl
  rw [h, List.getElem?_map] at h1
  obtain ⟨q, hq, e1⟩ := Option.map_eq_some_iff.mp h1
  exact ⟨q.2, by rw [hq, ← e1]⟩
section GX
variable {ads tw : List Nat}
theorem gc_xsA {P : Nat → Prop} (m : List (Nat × Nat)) (ws ws' : va_W) (hm : ws'.map Prod.fst = ws.map Prod.fst) (hF : ∀ z ∈ m, ¬ z ∈ gc_FX) (hun : tk_un gc_TY m tw ws ws') (hX : gc_XA P tw ws) : gc_XA P tw ws' := by
  intro t to ta j jo ja y yo ya r e eo ea n x v hq hPj hj hjo hja hw hwo hwa p0 p2 p6 hr px pv hx
  obtain ⟨⟨f0, f2, f6, fo, fa⟩, r1, r2, r3⟩ := gc_rl_ok _ hq
  have hn : ∀ z, z ∈ gc_FX → ¬ z ∈ m := fun z hz hzm => hF z hzm hz
  obtain ⟨e0, h0⟩ := gc_map_back hm hw
  obtain ⟨eo0, ho0⟩ := gc_map_back hm hwo
  obtain ⟨ea0, ha0⟩ := gc_map_back hm hwa
  obtain ⟨e1, g1, g2, -⟩ := hun j y e0 h0
  obtain ⟨eo1, go1, go2, -⟩ := hun jo yo eo0 ho0
  obtain ⟨ea1, ga1, ga2, -⟩ := hun ja ya ea0 ha0
  rw [hw] at g1
  rw [hwo] at go1
  rw [hwa] at ga1
  cases g1
  cases go1
  cases ga1
  have k1 : ∀ i, tk_rg gc_TY t i = i := fun i => by
    show (match gc_rgn t with
      | none => 0
      | some g => g i) = i
    rw [show gc_rgn t = some gc_id from r1]
    rfl
  have k2 : ∀ i, tk_rg gc_TY to i = 0 := fun i => by
    show (match gc_rgn to with
      | none => 0
      | some g => g i) = 0
    rw [show gc_rgn to = none from r2]
  have k3 : ∀ i, tk_rg gc_TY ta i = 0 := fun i => by
    show (match gc_rgn ta with
      | none => 0
      | some g => g i) = 0
    rw [show gc_rgn ta = none from r3]
  refine hX t to ta j jo ja y yo ya r e0 eo0 ea0 n x v hq hPj hj hjo hja h0 ho0 ha0 ?_ ?_ ?_ hr ?_ ?_ hx
  · rw [← g2 0 t hj (by rw [k1]; exact hn _ f0)]; exact p0
  · rw [← g2 2 t hj (by rw [k1]; exact hn _ f2)]; exact p2
  · rw [← g2 6 t hj (by rw [k1]; exact hn _ f6)]; exact p6
  · rw [← go2 r to hjo (by rw [k2]; exact hn _ fo)]; exact px
  · rw [← ga2 r ta hja (by rw [k3]; exact hn _ fa)]; exact pv
theorem gc_xsS (m : List (Nat × Nat)) (ws ws' : va_W) (hm : ws'.map Prod.fst = ws.map Prod.fst) (hF : ∀ z ∈ m, ¬ z ∈ gc_FX) (hun : tk_un gc_TY m tw ws ws') (hX : gc_XS tw ws) : gc_XS tw ws' := by
  intro t to ta j1 j2 y1 y2 yo k e1 e2 hq hk hj1 hj2 hw1 hw2 p1 p2
  obtain ⟨⟨f0, f2, f6, fo, fa⟩, r1, r2, r3⟩ := gc_rl_ok _ hq
  obtain ⟨a1, h1⟩ := gc_map_back hm hw1
  obtain ⟨a2, h2⟩ := gc_map_back hm hw2
  obtain ⟨b1, g1, g1', -⟩ := hun j1 y1 a1 h1
  obtain ⟨b2, g2, g2', -⟩ := hun j2 y2 a2 h2
  rw [hw1] at g1
  rw [hw2] at g2
  cases g1
  cases g2
  have k1 : tk_rg gc_TY t k = k := by
    show (match gc_rgn t with
      | none => 0
      | some g => g k) = k
    rw [show gc_rgn t = some gc_id from r1]
    rfl
  have hn : ¬ (t, tk_rg gc_TY t k) ∈ m := by
    rw [k1]
    rcases hk with rfl | rfl
    · exact fun z => hF _ z f0
    · exact fun z => hF _ z f2
  exact hX t to ta j1 j2 y1 y2 yo k a1 a2 hq hk hj1 hj2 h1 h2 (by rw [← g1' k t hj1 hn]; exact p1) (by rw [← g2' k t hj2 hn]; exact p2)
theorem gc_xs1 (m : List (Nat × Nat)) (ws ws' : va_W) (hm : ws'.map Prod.fst = ws.map Prod.fst) (hF : ∀ z ∈ m, ¬ z ∈ gc_FX) (hun : tk_un gc_TY m tw ws ws') (hX : gc_X tw ws) : gc_X tw ws' := ⟨gc_xsA m ws ws' hm hF hun hX.1, gc_xsS m ws ws' hm hF hun hX.2⟩
/-- a cell is written, but for a TALES' references -/
theorem gc_XS_set {ws : va_W} {j x : Nat} {e e' : va_E} (hw : ws[j]? = some (x, e)) (h : ∀ q ∈ gc_rl, tw[j]? = some q.1 → tk_pos e' 0 = tk_pos e 0 ∧ tk_pos e' 2 = tk_pos e 2) (hX : gc_XS tw ws) : gc_XS tw (ws.set j (x, e')) := by
  have hold : ∀ (j1 y1 : Nat) (e1 : va_E), (ws.set j (x, e'))[j1]? = some (y1, e1) → ∃ e0, ws[j1]? = some (y1, e0) ∧ ∀ q ∈ gc_rl, tw[j1]? = some q.1 → ∀ k, (k = 0 ∨ k = 2) → tk_pos e1 k = tk_pos e0 k := by
    intro j1 y1 e1 h1
    by_cases ej : j = j1
    · subst ej
      rw [List.getElem?_set_self (List.getElem?_eq_some_iff.mp hw).1] at h1
      cases h1
      refine ⟨e, hw, fun q hq ht k hk => ?_⟩
      have := h q hq ht
      rcases hk with rfl | rfl
      · exact this.1
      · exact this.2
    · rw [List.getElem?_set_ne ej] at h1
      exact ⟨e1, h1, fun _ _ _ _ _ => rfl⟩
  intro t to ta j1 j2 y1 y2 yo k e1 e2 hq hk hj1 hj2 hw1 hw2 p1 p2
  obtain ⟨a1, h1, g1⟩ := hold j1 y1 e1 hw1
  obtain ⟨a2, h2, g2⟩ := hold j2 y2 e2 hw2
  exact hX t to ta j1 j2 y1 y2 yo k a1 a2 hq hk hj1 hj2 h1 h2 (by rw [← g1 _ hq hj1 k hk]; exact p1) (by rw [← g2 _ hq hj2 k hk]; exact p2)
/-- a fact of an int: what stands there -/
theorem gc_flI {vals : List Int} {rads : List Nat} {ws : va_W} {A : Nat → Prop} {fa : tk_FA} {a : Nat} {k v : tk_V} {x i j : Nat} {e : va_E} (h9 : ∀ z ∈ fa, tk_fk vals rads ws z) (h7 : va_D A ws) (h : tk_fl fa a k = some v) (hv : v.1 = 0) (hax : rads[a]? = some x) (hk : tk_num vals k = some (i : Int)) (hw : ws[j]? = some (x, e)) : ∃ u : Int32, tk_pos e i = some (.int u) ∧ tk_num vals v = some u.toInt := by
  obtain ⟨u, g1, g2⟩ := tk_fl_ok h9 h7 h hax hk hw
  obtain ⟨z, rfl, hz⟩ := tk_g0 g2 hv
  exact ⟨z, g1, hz⟩
theorem gc_flR {vals : List Int} {rads : List Nat} {ws : va_W} {A : Nat → Prop} {fa : tk_FA} {a : Nat} {k v : tk_V} {x i j : Nat} {e : va_E} (h9 : ∀ z ∈ fa, tk_fk vals rads ws z) (h7 : va_D A ws) (h : tk_fl fa a k = some v) (hv : v.1 = 2) (hax : rads[a]? = some x) (hk : tk_num vals k = some (i : Int)) (hw : ws[j]? = some (x, e)) : ∃ u : Nat, tk_pos e i = some (.ref u) ∧ rads[v.2.1]? = some u := by
  obtain ⟨u, g1, g2⟩ := tk_fl_ok h9 h7 h hax hk hw
  obtain ⟨z, hz, rfl⟩ := tk_g2 g2 hv
  exact ⟨z, g1, hz⟩
/-- an element behind the count is written -/
theorem gc_gA_ok (hU : gc_U tw) {st : tk_S} {fld t r i x j : Nat} {key : tk_V} {e e' : va_E} {vals : List Int} {rads : List Nat} {ws : va_W} {A : Nat → Prop} (hfld : (fld = 0 ∧ t = gc_dr.2.1) ∨ (fld = 2 ∧ t = gc_dr.2.2)) (h : gc_gA st fld r key = true) (hH : tk_H st.2.2.1 vals) (h3 : rk_A2 (fun t y => tk_ty ads tw t y) st.2.2.2.1 rads) (h9 : ∀ z ∈ st.2.2.2.2, tk_fk vals rads ws z) (h7 : va_D A ws) (h4 : ws.map Prod.fst = ads) (hax : rads[r]? = some x) (hn : tk_num vals key = some (i : Int)) (hw : ws[j]? = some (x, e)) (hj : tw[j]? = some t) (hpd : ∀ i', ¬ i' = i → tk_pos e' i' = tk_pos e i') (hX : gc_X tw ws) : gc_X tw (ws.set j (x, e')) := by
  have hXS := gc_XS_set (tw := tw) (e' := e') hw (fun q hq ht => by
    exfalso
    obtain ⟨d1, d2, -⟩ := gc_rl_ne _ hq _ gc_dr_in
    rw [hj] at ht
    have := Option.some.inj ht
    rcases hfld with ⟨-, rfl⟩ | ⟨-, rfl⟩
    · exact d1 this.symm
    · exact d2 this.symm) hX.2
  refine ⟨?_, hXS⟩
  obtain ⟨q, hq, hc⟩ := List.any_eq_true.mp h
  rw [Bool.and_eq_true, Bool.and_eq_true, Bool.and_eq_true, Bool.and_eq_true] at hc
  obtain ⟨c1, c2, c3, c4, c5⟩ := hc
  split at c4
  · next tT hT =>
    have eT := Nat.eq_of_beq_eq_true c4
    subst eT
    split at c5
    · next c hc =>
      rw [Bool.and_eq_true] at c5
      obtain ⟨yT, hyT, jT, hjT, htT⟩ := h3.get hT
      rw [← h4, List.getElem?_map] at hjT
      obtain ⟨qT, hqT, eqT⟩ := Option.map_eq_some_iff.mp hjT
      have hwT : ws[jT]? = some (yT, qT.2) := by rw [hqT, ← eqT]
      obtain ⟨cz, hcz, hcn⟩ := gc_flI h9 h7 hc (Nat.eq_of_beq_eq_true c5.1) hyT (i := 6) rfl hwT
      have hle := tk_le_ok hH.1 hH.2 hcn hn c5.2
      have hold : ∀ (j1 y1 : Nat) (e1 : va_E), (ws.set j (x, e'))[j1]? = some (y1, e1) → ∃ e0, ws[j1]? = some (y1, e0) ∧ (¬ j1 = j → e1 = e0) ∧ ∀ i', ¬ (j1 = j ∧ i' = i) → tk_pos e1 i' = tk_pos e0 i' := by
        intro j1 y1 e1 h1
        by_cases ej : j = j1
        · subst ej
          rw [List.getElem?_set_self (List.getElem?_eq_some_iff.mp hw).1] at h1
          cases h1
          exact ⟨e, hw, fun z => absurd rfl z, fun i' hi' => hpd i' (fun z => hi' ⟨rfl, z⟩)⟩
        · rw [List.getElem?_set_ne ej] at h1
          exact ⟨e1, h1, fun _ => rfl, fun _ _ => rfl⟩
      intro t1 to ta j1 jo ja y1 yo ya r1 e1 eo ea n xx vv hq1 _ hj1 hjo hja hw1 hwo hwa p0 p2 p6 hr px pv hx
      obtain ⟨d1, d2, d3⟩ := gc_rl_ne _ hq1 _ gc_dr_in
      have hj1j : ¬ j1 = j := by
        intro z
        rw [z, hj] at hj1
        have := Option.some.inj hj1
        rcases hfld with ⟨-, rfl⟩ | ⟨-, rfl⟩
        · exact d1 this.symm
        · exact d2 this.symm
      obtain ⟨e10, k1, k1e, k1p⟩ := hold j1 y1 e1 hw1
      obtain ⟨eo0, ko, -, kop⟩ := hold jo yo eo hwo
      obtain ⟨ea0, ka, -, kap⟩ := hold ja ya ea hwa
      have ee := k1e hj1j
      subst ee
      -- where the written array is one of this TALES, the place isn't below the count
      have hout : (jo = j ∨ ja = j) → ¬ r1 = i := by
        intro hjj er
        have ht1 : t1 = gc_dr.1 := by
          rcases hjj with z | z
          · rw [z, hj] at hjo
            have hto := Option.some.inj hjo
            rcases hfld with ⟨-, e2⟩ | ⟨-, e2⟩
            · have := d3.2.1 (show to = gc_dr.2.1 by rw [← hto, e2])
              rw [← this]
            · exact absurd (show to = gc_dr.2.2 by rw [← hto, e2]) d3.1
          · rw [z, hj] at hja
            have hta := Option.some.inj hja
            rcases hfld with ⟨-, e2⟩ | ⟨-, e2⟩
            · exact absurd (show gc_dr.2.1 = ta by rw [← hta, e2]) (gc_rl_ne _ gc_dr_in _ hq1).2.2.1
            · have := d3.2.2 (show ta = gc_dr.2.2 by rw [← hta, e2])
              rw [← this]
        rw [ht1] at hj1
        have ejj := hU j1 jT hj1 htT
        subst ejj
        rw [k1] at hwT
        cases hwT
        rw [p6] at hcz
        cases hcz
        omega
      refine hX.1 t1 to ta j1 jo ja y1 yo ya r1 e1 eo0 ea0 n xx vv hq1 trivial hj1 hjo hja k1 ko ka p0 p2 p6 hr ?_ ?_ hx
      · rw [← kop r1 (fun z => hout (Or.inl z.1) z.2)]; exact px
      · rw [← kap r1 (fun z => hout (Or.inr z.1) z.2)]; exact pv
    · cases c5
  · cases c4
theorem gc_gI_ok {st : tk_S} {r fld x j n : Nat} {c : tk_V} {P : tk_I → Bool} {e : va_E} {vals : List Int} {rads : List Nat} {ws : va_W} {A : Nat → Prop} {ya ja : Nat} {ea : va_E} {v : Int32} (h : gc_gI st r c fld P = true) (hH : tk_H st.2.2.1 vals) (h9 : ∀ z ∈ st.2.2.2.2, tk_fk vals rads ws z) (h7 : va_D A ws) (hax : rads[r]? = some x) (hw : ws[j]? = some (x, e)) (hc : tk_num vals c = some (n : Int)) (hp : tk_pos e fld = some (.ref ya)) (hwa : ws[ja]? = some (ya, ea)) (hv : tk_pos ea n = some (.int v)) : ∃ J, P J = true ∧ J.1 ≤ v.toInt ∧ v.toInt ≤ J.2 := by
  unfold gc_gI at h
  split at h
  · next a ha =>
    rw [Bool.and_eq_true] at h
    obtain ⟨ya', g1, g2⟩ := gc_flR h9 h7 ha (Nat.eq_of_beq_eq_true h.1) hax (i := fld) rfl hw
    rw [hp] at g1
    cases g1
    have h2 := h.2
    split at h2
    · next o ho =>
      rw [Bool.and_eq_true] at h2
      obtain ⟨u, k1, k2⟩ := gc_flI h9 h7 ho (Nat.eq_of_beq_eq_true h2.1) g2 hc hwa
      rw [hv] at k1
      cases k1
      have h3 := h2.2
      split at h3
      · next J hJ => exact ⟨J, h3, tk_iv_ok hH.1 k2 hJ⟩
      · cases h3
    · cases h2
  · cases h
/-- the count is written -/
theorem gc_gC_ok {st : tk_S} {r x j t : Nat} {v : tk_V} {e e' : va_E} {u : Value} {vals : List Int} {rads : List Nat} {ws : va_W} {A : Nat → Prop} (ht : ∃ q ∈ gc_rl, q.1 = t) (hv0 : v.1 = 0) (h : gc_gC st r v = true) (hH : tk_H st.2.2.1 vals) (h9 : ∀ z ∈ st.2.2.2.2, tk_fk vals rads ws z) (h7 : va_D A ws) (hax : rads[r]? = some x) (hw : ws[j]? = some (x, e)) (hj : tw[j]? = some t) (hg : tk_g vals rads v u) (hps : tk_pos e' 6 = some u) (hpd : ∀ i', ¬ i' = 6 → tk_pos e' i' = tk_pos e i') (hX : gc_X tw ws) : gc_X tw (ws.set j (x, e')) := by
  refine ⟨?_, gc_XS_set hw (fun _ _ _ => ⟨hpd 0 (by decide), hpd 2 (by decide)⟩) hX.2⟩
  obtain ⟨z, rfl, hz⟩ := tk_g0 hg hv0
  intro t1 to ta j1 jo ja y1 yo ya r1 e1 eo ea n xx vv hq1 _ hj1 hjo hja hw1 hwo hwa p0 p2 p6 hr px pv hx
  obtain ⟨q0, hq0, et⟩ := ht
  obtain ⟨d1, d2, d3⟩ := gc_rl_ne _ hq0 _ hq1
  have hjo' : ¬ j = jo := by
    intro z; rw [← z, hj] at hjo; exact d1 (by rw [et]; exact Option.some.inj hjo)
  have hja' : ¬ j = ja := by
    intro z; rw [← z, hj] at hja; exact d2 (by rw [et]; exact Option.some.inj hja)
  rw [List.getElem?_set_ne hjo'] at hwo
  rw [List.getElem?_set_ne hja'] at hwa
  by_cases ej : j = j1
  · subst ej
    rw [List.getElem?_set_self (List.getElem?_eq_some_iff.mp hw).1] at hw1
    cases hw1
    rw [hps] at p6
    cases p6
    rw [hpd 0 (by decide)] at p0
    rw [hpd 2 (by decide)] at p2
    unfold gc_gC at h
    split at h
    · next I hI =>
      have b := tk_iv_ok hH.1 hz hI
      rw [Bool.or_eq_true] at h
      rcases h with h | h
      · have := of_decide_eq_true h
        omega
      · split at h
        · next c hc =>
          rw [Bool.and_eq_true, Bool.or_eq_true, Bool.and_eq_true, Bool.or_eq_true] at h
          obtain ⟨cz, hcz, hcn⟩ := gc_flI h9 h7 hc (Nat.eq_of_beq_eq_true h.1) hax (i := 6) rfl hw
          have hin : (r1 : Int) < cz.toInt → 1 ≤ vv.toInt ∧ vv.toInt ≤ 20 := fun hlt => hX.1 t1 to ta j jo ja x yo ya r1 e eo ea cz xx vv hq1 trivial hj1 hjo hja hw hwo hwa p0 p2 hcz hlt px pv hx
          rcases h.2 with h1 | ⟨h1, h2⟩
          · have := tk_le_ok hH.1 hH.2 hz hcn h1
            exact hin (by omega)
          · have hle := tk_le_ok hH.1 hH.2 hz hcn h1
            by_cases hlt : (r1 : Int) < cz.toInt
            · exact hin hlt
            · have hc1 : tk_num vals c = some (r1 : Int) := by rw [hcn]; congr 1; omega
              rcases h2 with h2 | h2
              · obtain ⟨J, k1, k2, k3⟩ := gc_gI_ok h2 hH h9 h7 hax hw hc1 p0 hwo px
                rw [Bool.or_eq_true, decide_eq_true_eq, decide_eq_true_eq] at k1
                omega
              · obtain ⟨J, k1, k2, k3⟩ := gc_gI_ok h2 hH h9 h7 hax hw hc1 p2 hwa pv
                rw [Bool.and_eq_true, decide_eq_true_eq, decide_eq_true_eq] at k1
                omega
        · cases h
    · cases h
  · rw [List.getElem?_set_ne ej] at hw1
    exact hX.1 t1 to ta j1 jo ja y1 yo ya r1 e1 eo ea n xx vv hq1 trivial hj1 hjo hja hw1 hwo hwa p0 p2 p6 hr px pv hx
theorem gc_xs (hU : gc_U tw) : tk_xs gc_TY (gc_X tw) ads tw := by
  refine ⟨gc_xs1, ?_⟩
  intro st t r i x j key v e e' u vals rads ws A h hH h3 h9 h7 h4 hax hn hw hj hg hps hpd hX
  have h : gc_G st t r key v = true := h
  unfold gc_G at h
  rw [Bool.or_eq_true, Bool.or_eq_true, Bool.and_eq_true, Bool.and_eq_true, Bool.and_eq_true, Bool.and_eq_true, Bool.and_eq_true] at h
  rcases h with ⟨h1, h2⟩ | ⟨h1, h2⟩ | ⟨h1, h2, h5, h6⟩
  · exact gc_gA_ok hU (Or.inl ⟨rfl, Nat.eq_of_beq_eq_true h1⟩) h2 hH h3 h9 h7 h4 hax hn hw hj hpd hX
  · exact gc_gA_ok hU (Or.inr ⟨rfl, Nat.eq_of_beq_eq_true h1⟩) h2 hH h3 h9 h7 h4 hax hn hw hj hpd hX
  · have hi : i = 6 := by
      have := tk_kq_ok h2 vals
      rw [hn] at this
      have := Option.some.inj (this.trans (show tk_num vals (tk_ky 6) = some ((6 : Nat) : Int) from rfl))
      omega
    subst hi
    obtain ⟨q, hq, hqe⟩ := List.any_eq_true.mp h1
    exact gc_gC_ok ⟨q, hq, Nat.eq_of_beq_eq_true hqe⟩ (Nat.eq_of_beq_eq_true h5) h6 hH h9 h7 hax hw hj hg hps hpd hX
end GX
