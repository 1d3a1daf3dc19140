section MH26_0
/-! ===== the class: what holds of TALES: a STEP of a row that counts has a number of 1 to 20 ===== -/
def gc_XA (P : Nat → Prop) (tw : List Nat) (ws : va_W) : Prop := ∀ (t to ta j jo ja y yo ya r : Nat) (e eo ea : va_E) (n x v : Int32), (t, to, ta) ∈ gc_rl → P j → tw[j]? = some t → tw[jo]? = some to → tw[ja]? = some ta → ws[j]? = some (y, e) → ws[jo]? = some (yo, eo) → ws[ja]? = some (ya, ea) → tk_pos e 0 = some (.ref yo) → tk_pos e 2 = some (.ref ya) → tk_pos e 6 = some (.int n) → (r : Int) < n.toInt → tk_pos eo r = some (.int x) → tk_pos ea r = some (.int v) → x.toInt = 13 → 1 ≤ v.toInt ∧ v.toInt ≤ 20
/-- two TALES of one kind have two rows of arrays -/
def gc_XS (tw : List Nat) (ws : va_W) : Prop := ∀ (t to ta j1 j2 y1 y2 yo k : Nat) (e1 e2 : va_E), (t, to, ta) ∈ gc_rl → (k = 0 ∨ k = 2) → tw[j1]? = some t → tw[j2]? = some t → ws[j1]? = some (y1, e1) → ws[j2]? = some (y2, e2) → tk_pos e1 k = some (.ref yo) → tk_pos e2 k = some (.ref yo) → j1 = j2
def gc_X (tw : List Nat) (ws : va_W) : Prop := gc_XA (fun _ => True) tw ws ∧ gc_XS tw ws
def gc_U (tw : List Nat) : Prop := ∀ j j' : Nat, tw[j]? = some gc_dr.1 → tw[j']? = some gc_dr.1 → j = j'
/-- an array's place at or behind the count -/
def gc_gA (st : tk_S) (fld r : Nat) (key : tk_V) : Bool := st.2.2.2.2.any (fun q => tk_kq q.2.1 (tk_ky fld) && (Nat.beq q.2.2.1 2 && (Nat.beq q.2.2.2.1 r && ((match st.2.2.2.1[q.1]? with
  | some t => Nat.beq t gc_dr.1
  | none => false) && (match tk_fl st.2.2.2.2 q.1 (tk_ky 6) with
  | some c => Nat.beq c.1 0 && tk_le st.2.2.1.1 st.2.2.1.2 c key 0
  | none => false)))))
def gc_gI (st : tk_S) (r : Nat) (c : tk_V) (fld : Nat) (P : tk_I → Bool) : Bool := match tk_fl st.2.2.2.2 r (tk_ky fld) with
  | some a => Nat.beq a.1 2 && (match tk_fl st.2.2.2.2 a.2.1 c with
    | some o => Nat.beq o.1 0 && (match tk_iv st.2.2.1.1 o with
      | some J => P J
      | none => false)
    | none => false)
  | none => false
/-- the count: not more than it was, or one more and the row is good -/
def gc_gC (st : tk_S) (r : Nat) (v : tk_V) : Bool := match tk_iv st.2.2.1.1 v with
  | some I => decide (I.2 ≤ 0) || (match tk_fl st.2.2.2.2 r (tk_ky 6) with
    | some c => Nat.beq c.1 0 && (tk_le st.2.2.1.1 st.2.2.1.2 v c 0 || (tk_le st.2.2.1.1 st.2.2.1.2 v c (-1) && (gc_gI st r c 0 (fun J => decide (J.2 < 13) || decide (13 < J.1)) || gc_gI st r c 2 (fun J => decide (1 ≤ J.1) && decide (J.2 ≤ 20)))))
    | none => false)
  | none => false
def gc_G : tk_S → Nat → Nat → tk_V → tk_V → Bool := fun st t r key v => (Nat.beq t gc_dr.2.1 && gc_gA st 0 r key) || ((Nat.beq t gc_dr.2.2 && gc_gA st 2 r key) || (gc_rl.any (fun q => Nat.beq q.1 t) && (tk_kq key (tk_ky 6) && (Nat.beq v.1 0 && gc_gC st r v))))
def gc_TY : tk_TT := (gc_ty, gc_reg, gc_rgn, gc_FX, gc_G)
theorem gc_rl_ok : ∀ q ∈ gc_rl, ((q.1, 0) ∈ gc_FX ∧ (q.1, 2) ∈ gc_FX ∧ (q.1, 6) ∈ gc_FX ∧ (q.2.1, 0) ∈ gc_FX ∧ (q.2.2, 0) ∈ gc_FX) ∧ gc_rgn q.1 = some gc_id ∧ gc_rgn q.2.1 = none ∧ gc_rgn q.2.2 = none := by
  intro q hq
  simp only [gc_rl, List.mem_cons, List.not_mem_nil, or_false] at hq
  rcases hq with rfl | rfl | rfl
  all_goals exact ⟨by decide +kernel, rfl, rfl, rfl⟩
/-- arrays of TALES are no TALES; they are of one TALES' kind -/
theorem gc_rl_ne : ∀ q ∈ gc_rl, ∀ q' ∈ gc_rl, ¬ q.1 = q'.2.1 ∧ ¬ q.1 = q'.2.2 ∧ ¬ q.2.1 = q'.2.2 ∧ (q.2.1 = q'.2.1 → q = q') ∧ (q.2.2 = q'.2.2 → q = q') := by decide +kernel
theorem gc_dr_in : gc_dr ∈ gc_rl := by decide +kernel
theorem gc_map_back {ws ws' : va_W} (h : ws'.map Prod.fst = ws.map Prod.fst) {j y : Nat} {e : va_E} (hj : ws'[j]? = some (y, e)) : ∃ e0, ws[j]? = some (y, e0) := by
  have h1 : (ws'.map Prod.fst)[j]? = some y := by rw [List.getElem?_map, hj]; rfl
  rw [h, List.getElem?_map] at h1
  obtain ⟨q, hq, e1⟩ := Option.map_eq_some_iff.mp h1
  exact ⟨q.2, by rw [hq, ← e1]⟩
section GX
variable {ads tw : List Nat}
theorem gc_xsA {P : Nat → Prop} (m : List (Nat × Nat)) (ws ws' : va_W) (hm : ws'.map Prod.fst = ws.map Prod.fst) (hF : ∀ z ∈ m, ¬ z ∈ gc_FX) (hun : tk_un gc_TY m tw ws ws') (hX : gc_XA P tw ws) : gc_XA P tw ws' := by
  intro t to ta j jo ja y yo ya r e eo ea n x v hq hPj hj hjo hja hw hwo hwa p0 p2 p6 hr px pv hx
  obtain ⟨⟨f0, f2, f6, fo, fa⟩, r1, r2, r3⟩ := gc_rl_ok _ hq
  have hn : ∀ z, z ∈ gc_FX → ¬ z ∈ m := fun z hz hzm => hF z hzm hz
  obtain ⟨e0, h0⟩ := gc_map_back hm hw
  obtain ⟨eo0, ho0⟩ := gc_map_back hm hwo
  obtain ⟨ea0, ha0⟩ := gc_map_back hm hwa
  obtain ⟨e1, g1, g2, -⟩ := hun j y e0 h0
  obtain ⟨eo1, go1, go2, -⟩ := hun jo yo eo0 ho0
  obtain ⟨ea1, ga1, ga2, -⟩ := hun ja ya ea0 ha0
  rw [hw] at g1
  rw [hwo] at go1
  rw [hwa] at ga1
  cases g1
  cases go1
  cases ga1
  have k1 : ∀ i, tk_rg gc_TY t i = i := fun i => by
    show (match gc_rgn t with
      | none => 0
      | some g => g i) = i
    rw [show gc_rgn t = some gc_id from r1]
    rfl
  have k2 : ∀ i, tk_rg gc_TY to i = 0 := fun i => by
    show (match gc_rgn to with
      | none => 0
      | some g => g i) = 0
    rw [show gc_rgn to = none from r2]
  have k3 : ∀ i, tk_rg gc_TY ta i = 0 := fun i => by
    show (match gc_rgn ta with
      | none => 0
      | some g => g i) = 0
    rw [show gc_rgn ta = none from r3]
  refine hX t to ta j jo ja y yo ya r e0 eo0 ea0 n x v hq hPj hj hjo hja h0 ho0 ha0 ?_ ?_ ?_ hr ?_ ?_ hx
  · rw [← g2 0 t hj (by rw [k1]; exact hn _ f0)]; exact p0
  · rw [← g2 2 t hj (by rw [k1]; exact hn _ f2)]; exact p2
  · rw [← g2 6 t hj (by rw [k1]; exact hn _ f6)]; exact p6
  · rw [← go2 r to hjo (by rw [k2]; exact hn _ fo)]; exact px
  · rw [← ga2 r ta hja (by rw [k3]; exact hn _ fa)]; exact pv
theorem gc_xsS (m : List (Nat × Nat)) (ws ws' : va_W) (hm : ws'.map Prod.fst = ws.map Prod.fst) (hF : ∀ z ∈ m, ¬ z ∈ gc_FX) (hun : tk_un gc_TY m tw ws ws') (hX : gc_XS tw ws) : gc_XS tw ws' := by
  intro t to ta j1 j2 y1 y2 yo k e1 e2 hq hk hj1 hj2 hw1 hw2 p1 p2
  obtain ⟨⟨f0, f2, f6, fo, fa⟩, r1, r2, r3⟩ := gc_rl_ok _ hq
  obtain ⟨a1, h1⟩ := gc_map_back hm hw1
  obtain ⟨a2, h2⟩ := gc_map_back hm hw2
  obtain ⟨b1, g1, g1', -⟩ := hun j1 y1 a1 h1
  obtain ⟨b2, g2, g2', -⟩ := hun j2 y2 a2 h2
  rw [hw1] at g1
  rw [hw2] at g2
  cases g1
  cases g2
  have k1 : tk_rg gc_TY t k = k := by
    show (match gc_rgn t with
      | none => 0
      | some g => g k) = k
    rw [show gc_rgn t = some gc_id from r1]
    rfl
  have hn : ¬ (t, tk_rg gc_TY t k) ∈ m := by
    rw [k1]
    rcases hk with rfl | rfl
    · exact fun z => hF _ z f0
    · exact fun z => hF _ z f2
  exact hX t to ta j1 j2 y1 y2 yo k a1 a2 hq hk hj1 hj2 h1 h2 (by rw [← g1' k t hj1 hn]; exact p1) (by rw [← g2' k t hj2 hn]; exact p2)
theorem gc_xs1 (m : List (Nat × Nat)) (ws ws' : va_W) (hm : ws'.map Prod.fst = ws.map Prod.fst) (hF : ∀ z ∈ m, ¬ z ∈ gc_FX) (hun : tk_un gc_TY m tw ws ws') (hX : gc_X tw ws) : gc_X tw ws' := ⟨gc_xsA m ws ws' hm hF hun hX.1, gc_xsS m ws ws' hm hF hun hX.2⟩
/-- a cell is written, but for a TALES' references -/
theorem gc_XS_set {ws : va_W} {j x : Nat} {e e' : va_E} (hw : ws[j]? = some (x, e)) (h : ∀ q ∈ gc_rl, tw[j]? = some q.1 → tk_pos e' 0 = tk_pos e 0 ∧ tk_pos e' 2 = tk_pos e 2) (hX : gc_XS tw ws) : gc_XS tw (ws.set j (x, e')) := by
  have hold : ∀ (j1 y1 : Nat) (e1 : va_E), (ws.set j (x, e'))[j1]? = some (y1, e1) → ∃ e0, ws[j1]? = some (y1, e0) ∧ ∀ q ∈ gc_rl, tw[j1]? = some q.1 → ∀ k, (k = 0 ∨ k = 2) → tk_pos e1 k = tk_pos e0 k := by
    intro j1 y1 e1 h1
    by_cases ej : j = j1
    · subst ej
      rw [List.getElem?_set_self (List.getElem?_eq_some_iff.mp hw).1] at h1
      cases h1
      refine ⟨e, hw, fun q hq ht k hk => ?_⟩
      have := h q hq ht
      rcases hk with rfl | rfl
      · exact this.1
      · exact this.2
    · rw [List.getElem?_set_ne ej] at h1
      exact ⟨e1, h1, fun _ _ _ _ _ => rfl⟩
  intro t to ta j1 j2 y1 y2 yo k e1 e2 hq hk hj1 hj2 hw1 hw2 p1 p2
  obtain ⟨a1, h1, g1⟩ := hold j1 y1 e1 hw1
  obtain ⟨a2, h2, g2⟩ := hold j2 y2 e2 hw2
  exact hX t to ta j1 j2 y1 y2 yo k a1 a2 hq hk hj1 hj2 h1 h2 (by rw [← g1 _ hq hj1 k hk]; exact p1) (by rw [← g2 _ hq hj2 k hk]; exact p2)
/-- a fact of an int: what stands there -/
theorem gc_flI {vals : List Int} {rads : List Nat} {ws : va_W} {A : Nat → Prop} {fa : tk_FA} {a : Nat} {k v : tk_V} {x i j : Nat} {e : va_E} (h9 : ∀ z ∈ fa, tk_fk vals rads ws z) (h7 : va_D A ws) (h : tk_fl fa a k = some v) (hv : v.1 = 0) (hax : rads[a]? = some x) (hk : tk_num vals k = some (i : Int)) (hw : ws[j]? = some (x, e)) : ∃ u : Int32, tk_pos e i = some (.int u) ∧ tk_num vals v = some u.toInt := by
  obtain ⟨u, g1, g2⟩ := tk_fl_ok h9 h7 h hax hk hw
  obtain ⟨z, rfl, hz⟩ := tk_g0 g2 hv
  exact ⟨z, g1, hz⟩
theorem gc_flR {vals : List Int} {rads : List Nat} {ws : va_W} {A : Nat → Prop} {fa : tk_FA} {a : Nat} {k v : tk_V} {x i j : Nat} {e : va_E} (h9 : ∀ z ∈ fa, tk_fk vals rads ws z) (h7 : va_D A ws) (h : tk_fl fa a k = some v) (hv : v.1 = 2) (hax : rads[a]? = some x) (hk : tk_num vals k = some (i : Int)) (hw : ws[j]? = some (x, e)) : ∃ u : Nat, tk_pos e i = some (.ref u) ∧ rads[v.2.1]? = some u := by
  obtain ⟨u, g1, g2⟩ := tk_fl_ok h9 h7 h hax hk hw
  obtain ⟨z, hz, rfl⟩ := tk_g2 g2 hv
  exact ⟨z, g1, hz⟩
/-- an element behind the count is written -/
theorem gc_gA_ok (hU : gc_U tw) {st : tk_S} {fld t r i x j : Nat} {key : tk_V} {e e' : va_E} {vals : List Int} {rads : List Nat} {ws : va_W} {A : Nat → Prop} (hfld : (fld = 0 ∧ t = gc_dr.2.1) ∨ (fld = 2 ∧ t = gc_dr.2.2)) (h : gc_gA st fld r key = true) (hH : tk_H st.2.2.1 vals) (h3 : rk_A2 (fun t y => tk_ty ads tw t y) st.2.2.2.1 rads) (h9 : ∀ z ∈ st.2.2.2.2, tk_fk vals rads ws z) (h7 : va_D A ws) (h4 : ws.map Prod.fst = ads) (hax : rads[r]? = some x) (hn : tk_num vals key = some (i : Int)) (hw : ws[j]? = some (x, e)) (hj : tw[j]? = some t) (hpd : ∀ i', ¬ i' = i → tk_pos e' i' = tk_pos e i') (hX : gc_X tw ws) : gc_X tw (ws.set j (x, e')) := by
  have hXS := gc_XS_set (tw := tw) (e' := e') hw (fun q hq ht => by
    exfalso
    obtain ⟨d1, d2, -⟩ := gc_rl_ne _ hq _ gc_dr_in
    rw [hj] at ht
    have := Option.some.inj ht
    rcases hfld with ⟨-, rfl⟩ | ⟨-, rfl⟩
    · exact d1 this.symm
    · exact d2 this.symm) hX.2
  refine ⟨?_, hXS⟩
  obtain ⟨q, hq, hc⟩ := List.any_eq_true.mp h
  rw [Bool.and_eq_true, Bool.and_eq_true, Bool.and_eq_true, Bool.and_eq_true] at hc
  obtain ⟨c1, c2, c3, c4, c5⟩ := hc
  split at c4
  · next tT hT =>
    have eT := Nat.eq_of_beq_eq_true c4
    subst eT
    split at c5
    · next c hc =>
      rw [Bool.and_eq_true] at c5
      obtain ⟨yT, hyT, jT, hjT, htT⟩ := h3.get hT
      rw [← h4, List.getElem?_map] at hjT
      obtain ⟨qT, hqT, eqT⟩ := Option.map_eq_some_iff.mp hjT
      have hwT : ws[jT]? = some (yT, qT.2) := by rw [hqT, ← eqT]
      obtain ⟨cz, hcz, hcn⟩ := gc_flI h9 h7 hc (Nat.eq_of_beq_eq_true c5.1) hyT (i := 6) rfl hwT
      have hle := tk_le_ok hH.1 hH.2 hcn hn c5.2
      have hold : ∀ (j1 y1 : Nat) (e1 : va_E), (ws.set j (x, e'))[j1]? = some (y1, e1) → ∃ e0, ws[j1]? = some (y1, e0) ∧ (¬ j1 = j → e1 = e0) ∧ ∀ i', ¬ (j1 = j ∧ i' = i) → tk_pos e1 i' = tk_pos e0 i' := by
        intro j1 y1 e1 h1
        by_cases ej : j = j1
        · subst ej
          rw [List.getElem?_set_self (List.getElem?_eq_some_iff.mp hw).1] at h1
          cases h1
          exact ⟨e, hw, fun z => absurd rfl z, fun i' hi' => hpd i' (fun z => hi' ⟨rfl, z⟩)⟩
        · rw [List.getElem?_set_ne ej] at h1
          exact ⟨e1, h1, fun _ => rfl, fun _ _ => rfl⟩
      intro t1 to ta j1 jo ja y1 yo ya r1 e1 eo ea n xx vv hq1 _ hj1 hjo hja hw1 hwo hwa p0 p2 p6 hr px pv hx
      obtain ⟨d1, d2, d3⟩ := gc_rl_ne _ hq1 _ gc_dr_in
      have hj1j : ¬ j1 = j := by
        intro z
        rw [z, hj] at hj1
        have := Option.some.inj hj1
        rcases hfld with ⟨-, rfl⟩ | ⟨-, rfl⟩
        · exact d1 this.symm
        · exact d2 this.symm
      obtain ⟨e10, k1, k1e, k1p⟩ := hold j1 y1 e1 hw1
      obtain ⟨eo0, ko, -, kop⟩ := hold jo yo eo hwo
      obtain ⟨ea0, ka, -, kap⟩ := hold ja ya ea hwa
      have ee := k1e hj1j
      subst ee
      -- where the written array is one of this TALES, the place isn't below the count
      have hout : (jo = j ∨ ja = j) → ¬ r1 = i := by
        intro hjj er
        have ht1 : t1 = gc_dr.1 := by
          rcases hjj with z | z
          · rw [z, hj] at hjo
            have hto := Option.some.inj hjo
            rcases hfld with ⟨-, e2⟩ | ⟨-, e2⟩
            · have := d3.2.1 (show to = gc_dr.2.1 by rw [← hto, e2])
              rw [← this]
            · exact absurd (show to = gc_dr.2.2 by rw [← hto, e2]) d3.1
          · rw [z, hj] at hja
            have hta := Option.some.inj hja
            rcases hfld with ⟨-, e2⟩ | ⟨-, e2⟩
            · exact absurd (show gc_dr.2.1 = ta by rw [← hta, e2]) (gc_rl_ne _ gc_dr_in _ hq1).2.2.1
            · have := d3.2.2 (show ta = gc_dr.2.2 by rw [← hta, e2])
              rw [← this]
        rw [ht1] at hj1
        have ejj := hU j1 jT hj1 htT
        subst ejj
        rw [k1] at hwT
        cases hwT
        rw [p6] at hcz
        cases hcz
        omega
      refine hX.1 t1 to ta j1 jo ja y1 yo ya r1 e1 eo0 ea0 n xx vv hq1 trivial hj1 hjo hja k1 ko ka p0 p2 p6 hr ?_ ?_ hx
      · rw [← kop r1 (fun z => hout (Or.inl z.1) z.2)]; exact px
      · rw [← kap r1 (fun z => hout (Or.inr z.1) z.2)]; exact pv
    · cases c5
  · cases c4
theorem gc_gI_ok {st : tk_S} {r fld x j n : Nat} {c : tk_V} {P : tk_I → Bool} {e : va_E} {vals : List Int} {rads : List Nat} {ws : va_W} {A : Nat → Prop} {ya ja : Nat} {ea : va_E} {v : Int32} (h : gc_gI st r c fld P = true) (hH : tk_H st.2.2.1 vals) (h9 : ∀ z ∈ st.2.2.2.2, tk_fk vals rads ws z) (h7 : va_D A ws) (hax : rads[r]? = some x) (hw : ws[j]? = some (x, e)) (hc : tk_num vals c = some (n : Int)) (hp : tk_pos e fld = some (.ref ya)) (hwa : ws[ja]? = some (ya, ea)) (hv : tk_pos ea n = some (.int v)) : ∃ J, P J = true ∧ J.1 ≤ v.toInt ∧ v.toInt ≤ J.2 := by
  unfold gc_gI at h
  split at h
  · next a ha =>
    rw [Bool.and_eq_true] at h
    obtain ⟨ya', g1, g2⟩ := gc_flR h9 h7 ha (Nat.eq_of_beq_eq_true h.1) hax (i := fld) rfl hw
    rw [hp] at g1
    cases g1
    have h2 := h.2
    split at h2
    · next o ho =>
      rw [Bool.and_eq_true] at h2
      obtain ⟨u, k1, k2⟩ := gc_flI h9 h7 ho (Nat.eq_of_beq_eq_true h2.1) g2 hc hwa
      rw [hv] at k1
      cases k1
      have h3 := h2.2
      split at h3
      · next J hJ => exact ⟨J, h3, tk_iv_ok hH.1 k2 hJ⟩
      · cases h3
    · cases h2
  · cases h
/-- the count is written -/
theorem gc_gC_ok {st : tk_S} {r x j t : Nat} {v : tk_V} {e e' : va_E} {u : Value} {vals : List Int} {rads : List Nat} {ws : va_W} {A : Nat → Prop} (ht : ∃ q ∈ gc_rl, q.1 = t) (hv0 : v.1 = 0) (h : gc_gC st r v = true) (hH : tk_H st.2.2.1 vals) (h9 : ∀ z ∈ st.2.2.2.2, tk_fk vals rads ws z) (h7 : va_D A ws) (hax : rads[r]? = some x) (hw : ws[j]? = some (x, e)) (hj : tw[j]? = some t) (hg : tk_g vals rads v u) (hps : tk_pos e' 6 = some u) (hpd : ∀ i', ¬ i' = 6 → tk_pos e' i' = tk_pos e i') (hX : gc_X tw ws) : gc_X tw (ws.set j (x, e')) := by
  refine ⟨?_, gc_XS_set hw (fun _ _ _ => ⟨hpd 0 (by decide), hpd 2 (by decide)⟩) hX.2⟩
  obtain ⟨z, rfl, hz⟩ := tk_g0 hg hv0
  intro t1 to ta j1 jo ja y1 yo ya r1 e1 eo ea n xx vv hq1 _ hj1 hjo hja hw1 hwo hwa p0 p2 p6 hr px pv hx
  obtain ⟨q0, hq0, et⟩ := ht
  obtain ⟨d1, d2, d3⟩ := gc_rl_ne _ hq0 _ hq1
  have hjo' : ¬ j = jo := by
    intro z; rw [← z, hj] at hjo; exact d1 (by rw [et]; exact Option.some.inj hjo)
  have hja' : ¬ j = ja := by
    intro z; rw [← z, hj] at hja; exact d2 (by rw [et]; exact Option.some.inj hja)
  rw [List.getElem?_set_ne hjo'] at hwo
  rw [List.getElem?_set_ne hja'] at hwa
  by_cases ej : j = j1
  · subst ej
    rw [List.getElem?_set_self (List.getElem?_eq_some_iff.mp hw).1] at hw1
    cases hw1
    rw [hps] at p6
    cases p6
    rw [hpd 0 (by decide)] at p0
    rw [hpd 2 (by decide)] at p2
    unfold gc_gC at h
    split at h
    · next I hI =>
      have b := tk_iv_ok hH.1 hz hI
      rw [Bool.or_eq_true] at h
      rcases h with h | h
      · have := of_decide_eq_true h
        omega
      · split at h
        · next c hc =>
          rw [Bool.and_eq_true, Bool.or_eq_true, Bool.and_eq_true, Bool.or_eq_true] at h
          obtain ⟨cz, hcz, hcn⟩ := gc_flI h9 h7 hc (Nat.eq_of_beq_eq_true h.1) hax (i := 6) rfl hw
          have hin : (r1 : Int) < cz.toInt → 1 ≤ vv.toInt ∧ vv.toInt ≤ 20 := fun hlt => hX.1 t1 to ta j jo ja x yo ya r1 e eo ea cz xx vv hq1 trivial hj1 hjo hja hw hwo hwa p0 p2 hcz hlt px pv hx
          rcases h.2 with h1 | ⟨h1, h2⟩
          · have := tk_le_ok hH.1 hH.2 hz hcn h1
            exact hin (by omega)
          · have hle := tk_le_ok hH.1 hH.2 hz hcn h1
            by_cases hlt : (r1 : Int) < cz.toInt
            · exact hin hlt
            · have hc1 : tk_num vals c = some (r1 : Int) := by rw [hcn]; congr 1; omega
              rcases h2 with h2 | h2
              · obtain ⟨J, k1, k2, k3⟩ := gc_gI_ok h2 hH h9 h7 hax hw hc1 p0 hwo px
                rw [Bool.or_eq_true, decide_eq_true_eq, decide_eq_true_eq] at k1
                omega
              · obtain ⟨J, k1, k2, k3⟩ := gc_gI_ok h2 hH h9 h7 hax hw hc1 p2 hwa pv
                rw [Bool.and_eq_true, decide_eq_true_eq, decide_eq_true_eq] at k1
                omega
        · cases h
    · cases h
  · rw [List.getElem?_set_ne ej] at hw1
    exact hX.1 t1 to ta j1 jo ja y1 yo ya r1 e1 eo ea n xx vv hq1 trivial hj1 hjo hja hw1 hwo hwa p0 p2 p6 hr px pv hx
theorem gc_xs (hU : gc_U tw) : tk_xs gc_TY (gc_X tw) ads tw := by
  refine ⟨gc_xs1, ?_⟩
  intro st t r i x j key v e e' u vals rads ws A h hH h3 h9 h7 h4 hax hn hw hj hg hps hpd hX
  have h : gc_G st t r key v = true := h
  unfold gc_G at h
  rw [Bool.or_eq_true, Bool.or_eq_true, Bool.and_eq_true, Bool.and_eq_true, Bool.and_eq_true, Bool.and_eq_true, Bool.and_eq_true] at h
  rcases h with ⟨h1, h2⟩ | ⟨h1, h2⟩ | ⟨h1, h2, h5, h6⟩
  · exact gc_gA_ok hU (Or.inl ⟨rfl, Nat.eq_of_beq_eq_true h1⟩) h2 hH h3 h9 h7 h4 hax hn hw hj hpd hX
  · exact gc_gA_ok hU (Or.inr ⟨rfl, Nat.eq_of_beq_eq_true h1⟩) h2 hH h3 h9 h7 h4 hax hn hw hj hpd hX
  · have hi : i = 6 := by
      have := tk_kq_ok h2 vals
      rw [hn] at this
      have := Option.some.inj (this.trans (show tk_num vals (tk_ky 6) = some ((6 : Nat) : Int) from rfl))
      omega
    subst hi
    obtain ⟨q, hq, hqe⟩ := List.any_eq_true.mp h1
    exact gc_gC_ok ⟨q, hq, Nat.eq_of_beq_eq_true hqe⟩ (Nat.eq_of_beq_eq_true h5) h6 hH h9 h7 hax hw hj hg hps hpd hX
end GX
end MH26_0
section MH26_1
/-! ===== the class: Life.act: what a STEP's row says ===== -/
def gc_l20 : List Int := [1, 2, 3, 4, 5, 6, 7, 8, 9, 10, 11, 12, 13, 14, 15, 16, 17, 18, 19, 20]
theorem gc_l20_in : ∀ n : Nat, n < 20 → ((n : Int) + 1) ∈ gc_l20 := by decide +kernel
def gc_hk1 (st : tk_S) (row op a c : tk_V) (T : Nat) : Bool := (match st.2.2.2.1[T]?, st.2.2.2.1[op.2.1]?, st.2.2.2.1[a.2.1]? with
  | some t, some to, some ta => gc_rl.any (fun q => Nat.beq q.1 t && (Nat.beq q.2.1 to && Nat.beq q.2.2 ta))
  | _, _, _ => false) && ((Nat.beq op.1 2 && (Nat.beq a.1 2 && Nat.beq c.1 0)) && (tk_le st.2.2.1.1 st.2.2.1.2 row c 1 && (tk_ix st.2.2.1.1 row 30 && (match tk_fl st.2.2.2.2 op.2.1 row with
  | some o => Nat.beq o.1 0 && (match tk_iv st.2.2.1.1 o with
    | some J => decide (J.1 = 13) && decide (J.2 = 13)
    | none => false)
  | none => false))))
def gc_hkA : Nat → tk_S → Option (List tk_S) := fun pc st => cond (Nat.beq pc 88) (match tk_ld st.1 2, tk_ld st.1 3 with
  | some T, some row => cond (Nat.beq T.1 2 && Nat.beq row.1 0) (match tk_fl st.2.2.2.2 T.2.1 (tk_ky 0), tk_fl st.2.2.2.2 T.2.1 (tk_ky 2), tk_fl st.2.2.2.2 T.2.1 (tk_ky 6) with
    | some op, some a, some c => cond (gc_hk1 st (tk_nm st.2.2.1.1 row) op a c T.2.1) (some (gc_l20.map (fun v => (st.1, st.2.1, st.2.2.1, st.2.2.2.1, (a.2.1, tk_nm st.2.2.1.1 row, (0, 0, 0, v)) :: st.2.2.2.2)))) none
    | _, _, _ => none) none
  | _, _ => none) none
theorem gc_ta_ty : ∀ q ∈ gc_rl, gc_ty[q.2.2]? = some (.inr (.int, 30, (3, (q.2.2 : Int), 0))) := by
  intro q hq
  simp only [gc_rl, List.mem_cons, List.not_mem_nil, or_false] at hq
  rcases hq with rfl | rfl | rfl
  all_goals rfl
theorem gc_hkA_ok {ro : Nat → Nat → Int → Prop} {ads tw : List Nat} : tk_hkok gc_TY ro (gc_X tw) ads tw gc_hkA := by
  intro mods ws0 s D cl Ad vals0 rads0 nL K pc st l h kk
  intro vals rads H locs ls stk lc hH hR hl hL hS
  unfold gc_hkA at h
  cases hpc : Nat.beq pc 88 with
  | false => rw [hpc] at h; cases h
  | true =>
    rw [hpc] at h
    dsimp only [cond] at h
    split at h
    · next T row hT hrow =>
      cases hk : (Nat.beq T.1 2 && Nat.beq row.1 0) with
      | false => rw [hk] at h; cases h
      | true =>
        rw [hk] at h
        rw [Bool.and_eq_true] at hk
        dsimp only at h
        split at h
        · next op a c hop ha hc =>
          cases h1 : gc_hk1 st (tk_nm st.2.2.1.1 row) op a c T.2.1 with
          | false => rw [h1] at h; cases h
          | true =>
            rw [h1] at h
            cases h
            unfold gc_hk1 at h1
            rw [Bool.and_eq_true, Bool.and_eq_true, Bool.and_eq_true, Bool.and_eq_true, Bool.and_eq_true, Bool.and_eq_true] at h1
            obtain ⟨b1, ⟨b2, b3, b4⟩, b5, b6, b7⟩ := h1
            split at b1
            · next t to ta ht hto hta =>
              obtain ⟨q, hq, hqe⟩ := List.any_eq_true.mp b1
              rw [Bool.and_eq_true, Bool.and_eq_true] at hqe
              obtain ⟨e1, e2, e3⟩ := hqe
              have e1 := Nat.eq_of_beq_eq_true e1
              have e2 := Nat.eq_of_beq_eq_true e2
              have e3 := Nat.eq_of_beq_eq_true e3
              subst e1
              subst e2
              subst e3
              obtain ⟨hv0, hr0, h3, ws, h4, h5, h6, h7, h8, hun, h9⟩ := id hR
              obtain ⟨vT, hvT, gT⟩ := tk_ld_ok hL hT
              obtain ⟨xT, hxT, rfl⟩ := tk_g2 gT (Nat.eq_of_beq_eq_true hk.1)
              obtain ⟨vr, hvr, gr⟩ := tk_ld_ok hL hrow
              obtain ⟨zr, rfl, -⟩ := tk_g0 gr (Nat.eq_of_beq_eq_true hk.2)
              have gr2 := tk_nm_ok hH.1 gr
              have hnk : (tk_nm st.2.2.1.1 row).1 = 0 := by
                have := Nat.eq_of_beq_eq_true hk.2
                unfold tk_nm
                split
                · split
                  · split
                    · exact this
                    · exact this
                  · exact this
                · exact this
              obtain ⟨zr2, ez, hzr⟩ := tk_g0 gr2 hnk
              cases ez
              -- the cells
              obtain ⟨xT', hxT', hty⟩ := h3.get ht
              rw [hxT] at hxT'
              cases hxT'
              obtain ⟨jT, eT, hwT, hjT, -⟩ := tk_cell h4 h5 hty
              obtain ⟨yo, po, hro⟩ := gc_flR h9 h7 hop (Nat.eq_of_beq_eq_true b2) hxT (i := 0) rfl hwT
              obtain ⟨ya, pa, hra⟩ := gc_flR h9 h7 ha (Nat.eq_of_beq_eq_true b3) hxT (i := 2) rfl hwT
              obtain ⟨cz, pc6, hcn⟩ := gc_flI h9 h7 hc (Nat.eq_of_beq_eq_true b4) hxT (i := 6) rfl hwT
              obtain ⟨xo', hxo', htyo⟩ := h3.get hto
              rw [hro] at hxo'
              cases hxo'
              obtain ⟨jo, eo, hwo, hjo, -⟩ := tk_cell h4 h5 htyo
              obtain ⟨xa', hxa', htya⟩ := h3.get hta
              rw [hra] at hxa'
              cases hxa'
              obtain ⟨ja, ea, hwa, hob⟩ := tk_ob_of h4 h5 _ _ htya
              have hja : tw[ja]? = some q.2.2 := by
                obtain ⟨j2, hj2, hj3⟩ := htya
                rw [← h4, List.getElem?_map] at hj2
                obtain ⟨z, hz, ez⟩ := Option.map_eq_some_iff.mp hj2
                have := h7.1 ja j2 _ z hwa hz ez.symm
                rw [this]
                exact hj3
              obtain ⟨hin, hlt, hti⟩ := tk_ix_ok hH.1 hzr b6
              have hri : tk_num vals (tk_nm st.2.2.1.1 row) = some ((zr.toNatClampNeg : Nat) : Int) := by rw [hti]; exact hzr
              rw [show gc_TY.1[q.2.2]? = some (.inr (.int, 30, (3, (q.2.2 : Int), 0))) from gc_ta_ty q hq] at hob
              obtain ⟨cA, z, rfl, hz30, hel⟩ := hob
              have hv := hel zr.toNatClampNeg hlt
              unfold tk_fv at hv
              obtain ⟨v, hv1, -, -⟩ := hv
              have pv : tk_pos (.inl (cA, z)) zr.toNatClampNeg = some (.int v) := by
                show (if zr.toNatClampNeg < z.1 then some (tk_el z zr.toNatClampNeg) else none) = _
                rw [if_pos (by rw [hz30]; exact hlt), hv1]
              split at b7
              · next o ho =>
                rw [Bool.and_eq_true] at b7
                obtain ⟨uo, px, hun1⟩ := gc_flI h9 h7 ho (Nat.eq_of_beq_eq_true b7.1) hro hri hwo
                have b8 := b7.2
                split at b8
                · next J hJ =>
                  rw [Bool.and_eq_true, decide_eq_true_eq, decide_eq_true_eq] at b8
                  have bb := tk_iv_ok hH.1 hun1 hJ
                  have hle := tk_le_ok hH.1 hH.2 hri hcn b5
                  have hXX := hun.2.1 q.1 q.2.1 q.2.2 jT jo ja xT yo ya zr.toNatClampNeg eT eo (.inl (cA, z)) cz uo v hq trivial hjT hjo hja hwT hwo hwa po pa pc6 (by omega) px pv (by omega)
                  have hmem : v.toInt ∈ gc_l20 := by
                    have := gc_l20_in (v.toInt - 1).toNat (by omega)
                    rw [show (((v.toInt - 1).toNat : Nat) : Int) + 1 = v.toInt by omega] at this
                    exact this
                  refine kk _ (List.mem_map.mpr ⟨v.toInt, hmem, rfl⟩) vals rads H locs ls stk lc hH ⟨hv0, hr0, h3, ws, h4, h5, h6, h7, h8, hun, fun z1 hz1 => ?_⟩ hl hL hS
                  rcases List.mem_cons.mp hz1 with rfl | hz1
                  · exact ⟨ya, ja, zr.toNatClampNeg, _, _, hra, hri, hwa, pv, tk_gi rfl rfl⟩
                  · exact h9 z1 hz1
                · cases b8
              · cases b7
            · cases b1
        · cases h
    · cases h
end MH26_1
section MH26_2
/-! ===== the class: Tales.copyFrom by hand: the arrays are copied, then the count ===== -/
/-- a state, its stack too, is an instance of a template -/
def tk_hitS (TY : tk_TT) (id : tk_SG) (T st : tk_S) : Bool := match tk_mlo st.2.2.1 st.1 id T.1 with
  | some q => (match tk_ms st.2.2.1 q st.2.1 T.2.1 with
    | some q2 => (match tk_mf TY q2 st.2.2.1 st.2.2.2.1 st.2.2.2.2 T.2.2.2.2 with
      | some x => tk_fin x.2.1 x.2.2.1 x.1 T.2.2.1 T.2.2.2.1
      | none => false)
    | none => false)
  | none => false
section TKHS
variable {p : Program} {l : Launch} {e : Env} {R : Room} {s : State} {m : MethodId} {args : Array Value} {below : List Frame} {meth : Method} {c : Code} {Q : State → Prop} {cc : ByteArray} {D : va_G} {cl : List vw_C} {Ad : Nat → Prop} {nL : Nat} {vals0 : List Int} {rads0 : List Nat}
variable {mods : List (Nat × Nat)} {ws0 : va_W} {tbl xw : List Jvm.Cond} {fty : rk_F} {cln : List String} {MN : List rk_N} {mci : List Nat} {P : List rk_M2} {own : String} {lk : List (Nat × Nat × Nat × Nat)} {cs : List (Nat × Value)} {xt : tk_XT} {TY : tk_TT} {ro : Nat → Nat → Int → Prop} {X X' : va_W → Prop} {ads tw : List Nat}
theorem tk_hitS_ok {w0 : tk_W} {rf0 : List Nat} (hH0 : tk_H w0 vals0) (h30 : rk_A2 (fun t y => tk_ty ads tw t y) rf0 rads0) {K : rk_K} {pc : Nat} {T st : tk_S} (hh : tk_hitS TY (tk_id w0 rf0) T st = true) (kk : tk_St K nL (tk_hr mods ws0 TY ro X ads tw s D cl Ad vals0 rads0) pc T) : tk_St K nL (tk_hr mods ws0 TY ro X ads tw s D cl Ad vals0 rads0) pc st := by
  obtain ⟨lo, sk, w, rf, fa⟩ := st
  intro vals rads H locs ls stk lc hH hR hl hL hS
  dsimp only at hH hR hL hS
  unfold tk_hitS at hh
  dsimp only at hh
  split at hh
  · next q hq =>
    split at hh
    · next q2 hq2 =>
      split at hh
      · next x hx =>
        obtain ⟨⟨kv, rfl⟩, ⟨kr, rfl⟩, h3, ws, h4, h5, h6, h7, h8, hun, h9⟩ := hR
        have hid : tk_sg (vals0 ++ kv) (rads0 ++ kr) (tk_id w0 rf0) vals0 rads0 := tk_sg_grow _ _ (tk_id_ok hH0 h30)
        obtain ⟨l2, r2, lcB, g1, g2, g3⟩ := tk_mlo_ok hH hL hid hq
        obtain ⟨l4, r4, g4, g5⟩ := tk_ms_ok hH g1 hS hq2
        obtain ⟨l3, r3, lB, rB', m1, m2, m3, m4, m5⟩ := tk_mf_ok (tk_ob_of h4 h5) hH h3 h9 g4 hx
        obtain ⟨f1, f2⟩ := tk_fin_ok m1 m2 m4 hh
        simp only [List.append_assoc] at m4 m5 f1 f2 g2 g5
        refine kk (vals0 ++ (l2 ++ (l4 ++ lB))) (rads0 ++ (r2 ++ (r4 ++ rB'))) H locs ls stk lcB f1 ⟨⟨_, rfl⟩, ⟨_, rfl⟩, f2, ws, h4, h5, h6, h7, h8, hun, m5⟩ ⟨hl.1, hl.2.1, fun z hz => hl.2.2 z (g3 z hz)⟩ ?_ ?_
        · have := g2.grow (l4 ++ lB) (r4 ++ rB')
          simp only [List.append_assoc] at this
          exact this
        · have := tk_skG g5 lB rB'
          simp only [List.append_assoc] at this
          exact this
      · cases hh
    · cases hh
  · cases hh
/-- a part of a run between cuts, without ends -/
theorem tk_seg (hXs : tk_xs TY X ads tw) (hxt : tk_xtok xt) (hXt : xt Ad s s.heap) (hok : rk_ok tbl xw cl fty cln MN mci P) (hx : p.tables.exec = Jvm.exec) (hb : c.code = cc) {M : rk_M2} (hml : c.maxLocals = M.2.1) (hins : ∀ r ∈ M.1, decode cc r.1 = .ok r.2) (hF : rk_Fr s m args meth D cl Ad tbl xw fty cln own M.2.2.1 M.2.2.2.1) (hck : ∀ r ∈ M.2.2.1, rk_cok tbl xw MN P own r) (hkk : ∀ r ∈ M.2.2.1, rk_kok tbl own r) {d : Nat} {call : tk_Ca} (hcall : tk_SC l D cl tbl xw xt MN P TY ro X ads tw d call) (hfr : d + 1 ≤ R.frames) (hlo : 40 * (d + 1) ≤ R.locals) {cut : Nat → tk_S → Option Bool} (hcut : ∀ pc st, cut pc st = some true → tk_St (rk_KW p l e R s m args below meth c Q) M.2.1 (tk_hr mods ws0 TY ro X ads tw s D cl Ad vals0 rads0) pc st) {fuel : Nat} {work : List (Nat × tk_S)} (h : tk_loop (tk_go1 (tk_fun mods TY fty mci call M) M.2.2.2.2.1 M.1) cut fuel work [] = some []) : ∀ q ∈ work, tk_St (rk_KW p l e R s m args below meth c Q) M.2.1 (tk_hr mods ws0 TY ro X ads tw s D cl Ad vals0 rads0) q.1 q.2 :=
  (tk_loop_ok (W := fun pc st => tk_St (rk_KW p l e R s m args below meth c Q) M.2.1 (tk_hr mods ws0 TY ro X ads tw s D cl Ad vals0 rads0) pc st) (XS := []) hcut (fun _ _ _ hx2 => absurd hx2 List.not_mem_nil) (fun _ _ hz hk => tk_step0 hXs hxt hXt hok hx hb hml hins hF hck hkk hcall hfr hlo hz hk) fuel work [] [] h (fun _ z => z)).2
set_option maxHeartbeats 4000000 in
/-- an int array is copied whole: what X says becomes what X' says -/
theorem tk_cpyG (hx : p.tables.exec = Jvm.exec) (hb : c.code = cc) (hml : c.maxLocals = nL) (hF : rk_Fr s m args meth D cl Ad tbl xw fty cln own lk cs) (hfr : 1 ≤ R.frames) (hlo : 40 ≤ R.locals) (hkk : ∀ r ∈ lk, rk_kok tbl own r) {pc idx a0 a1 N t0 t1 : Nat} {f0 f1 : tk_F} {lo : List (Nat × tk_V)} {d a : tk_V} {w : tk_W} {rf : List Nat} {fa : tk_FA} (hlk1 : rk_lk lk idx = some (12, a0, a1)) (hdg : decode cc pc = .ok (.invokestatic idx, 3)) (hT0 : TY.1[t0]? = some (.inr (.int, N, f0))) (hT1 : TY.1[t1]? = some (.inr (.int, N, f1))) (hfv : ∀ i v, tk_fv ro TY.2.1 ads tw t0 i f0 v → tk_fv ro TY.2.1 ads tw t1 i f1 v) (ha : a.1 = 2) (hd : d.1 = 2) (hra : rf[a.2.1]? = some t0) (hrd : rf[d.2.1]? = some t1) (hm : (t1, 0) ∈ mods) (hrg : (TY.2.2.1 t1).isNone = true)
    (hstep : ∀ (vals : List Int) (rads : List Nat) (ws : va_W) (q0 q1 x0 x1 : Nat) (e0 e1 e1' : va_E), (∀ z ∈ fa, tk_fk vals rads ws z) → rads[a.2.1]? = some x0 → rads[d.2.1]? = some x1 → (∃ k, rads = rads0 ++ k) → ws.map Prod.fst = ads → va_D Ad ws → ws[q0]? = some (x0, e0) → ws[q1]? = some (x1, e1) → tw[q0]? = some t0 → tw[q1]? = some t1 → (∀ i, tk_pos e1' i = tk_pos e0 i) → X ws → X' (ws.set q1 (x1, e1')))
    (kk : tk_St (rk_KW p l e R s m args below meth c Q) nL (tk_hr mods ws0 TY ro X' ads tw s D cl Ad vals0 rads0) (pc + 3) (lo, [], w, rf, fa.filter (tk_kpa rf t1))) : tk_St (rk_KW p l e R s m args below meth c Q) nL (tk_hr mods ws0 TY ro X ads tw s D cl Ad vals0 rads0) pc (lo, [(0, 0, 0, (N : Int)), (0, 0, 0, 0), d, (0, 0, 0, 0), a], w, rf, fa) := by
  obtain ⟨hts, hxw, hown, hK, hA, hcl, hlk, hini, hac, hcs⟩ := hF
  obtain ⟨w1, w2, w3, w4⟩ := hkk _ (rk_lk_mem hlk1) rfl
  have hnf : nativeFrameWords "java/lang/System" "arraycopy" 5 ≤ 20 := by decide +kernel
  intro vals rads H locs ls stk lc hH hR hl hL hS
  dsimp only at hH hR hL hS
  obtain ⟨vn, j1, rfl, gn, hSa⟩ := hS.cons
  obtain ⟨vd, j2, rfl, gdp, hSb⟩ := hSa.cons
  obtain ⟨vo, j3, rfl, gd, hSc⟩ := hSb.cons
  obtain ⟨vs, j4, rfl, gsp, hSd⟩ := hSc.cons
  obtain ⟨va, j5, rfl, ga, hSe⟩ := hSd.cons
  have hj5 := hSe.nil
  subst hj5
  obtain ⟨xn, rfl, nn⟩ := tk_g0 gn rfl
  obtain ⟨xd, rfl, nd⟩ := tk_g0 gdp rfl
  obtain ⟨xs, rfl, ns⟩ := tk_g0 gsp rfl
  have en : (N : Int) = xn.toInt := Option.some.inj nn
  have ed : (0 : Int) = xd.toInt := Option.some.inj nd
  have es : (0 : Int) = xs.toInt := Option.some.inj ns
  obtain ⟨y1, hd1, rfl⟩ := tk_g2 gd hd
  obtain ⟨y0, hd0, rfl⟩ := tk_g2 ga ha
  obtain ⟨hv0, hr0, h3, ws, h4, h5, h6, h7, h8, hun, h9⟩ := id hR
  obtain ⟨x', hax', hty0⟩ := h3.get hra
  rw [hd0] at hax'; cases hax'
  obtain ⟨x', hax', hty1⟩ := h3.get hrd
  rw [hd1] at hax'; cases hax'
  obtain ⟨q0, e0, hw0, hj0, hc0⟩ := tk_cell h4 h5 hty0
  obtain ⟨q1, e1, hw1, hj1, hc1⟩ := tk_cell h4 h5 hty1
  unfold tk_cl at hc0 hc1
  rw [hT0] at hc0
  rw [hT1] at hc1
  obtain ⟨cA0, hA01, hA02, f, rfl, hf⟩ := hc0
  obtain ⟨cA1, hA11, hA12, g, rfl, hg⟩ := hc1
  have hK2 : va_K D cl [(cA0, .int), (cA1, .int)] s := (rk_K1 hK hA01 hA02).app (rk_K1 hK hA11 hA12)
  have z0 : (0 : Int32).toInt = 0 := rfl
  have nxn : xn.toNatClampNeg = N := by show xn.toInt.toNat = N; omega
  have nxd : xd.toNatClampNeg = 0 := by show xd.toInt.toNat = 0; omega
  have nxs : xs.toNatClampNeg = 0 := by show xs.toInt.toNat = 0; omega
  have hneg : ∀ z : Int32, 0 ≤ z.toInt → ¬ z < 0 := fun z hz q => by
    have := Int32.lt_iff_toInt_lt.mp q
    omega
  refine va_copyi (ty := .int) hx hb (by rw [hml]; exact hl.1.symm) hown (hts _ w1) (hts _ w2) (hts _ w3) (hts _ w4) hK2 h6 h7 h8 q0 q1 0 1 hw0 hw1 rfl rfl rfl (hneg _ (by omega)) (hneg _ (by omega)) (hneg _ (by omega)) (by rw [nxs, nxn]; show 0 + N ≤ N; omega) (by rw [nxd, nxn]; show 0 + N ≤ N; omega) (fun _ _ => rfl) hfr (by show 0 + _ ≤ _; omega) hdg (fun H1 locs1 hP1 hD1 hS1 => ?_)
  rw [nxs, nxd, nxn] at hP1 hD1
  have hcy : ∀ i, i < N → va_cpy f g 0 0 N i = f i := fun i hi => by
    rw [pk_cpy_in (by omega) (by omega)]
    congr 1
    omega
  refine kk vals rads H1 locs1 ls _ lc hH ⟨hv0, hr0, h3, _, by rw [rk_map_set hw1]; exact h4, tk_A2_setR ?_ h5 hj1, hP1, hD1, hS1, ⟨tk_un_tr hun.1 (tk_un_set (mods := [(t1, 0)]) hw1 hj1 (fun i hi => absurd (show (t1, tk_rg TY t1 i) ∈ [(t1, 0)] by rw [tk_rg_none hrg i]; exact List.mem_singleton.mpr rfl) hi) ⟨0, by rw [tk_rg_none hrg 0]; exact List.mem_singleton.mpr rfl⟩) (fun z hz => by rw [List.mem_singleton.mp hz]; exact hm), hstep vals rads ws q0 q1 _ _ _ _ _ h9 hd0 hd1 hr0 h4 h7 hw0 hw1 hj0 hj1 ?_ hun.2⟩, fun z hz => tk_fk_oth h3 h4 h7 hw1 hj1 (List.mem_filter.mp hz).2 (h9 z (List.mem_filter.mp hz).1)⟩ hl hL trivial
  · show tk_cl TY ro ads tw s t1 _
    unfold tk_cl
    rw [hT1]
    refine ⟨cA1, hA11, hA12, _, rfl, fun i hi => ?_⟩
    rw [hcy i hi]
    exact hfv i _ (hf i hi)
  · intro i
    show (if i < N then some (Value.int (va_cpy f g 0 0 N i)) else none) = (if i < N then some (Value.int (f i)) else none)
    by_cases hi : i < N
    · rw [if_pos hi, if_pos hi, hcy i hi]
    · rw [if_neg hi, if_neg hi]
set_option maxHeartbeats 4000000 in
/-- an int field is written: what X says becomes what X' says -/
theorem tk_putG (hx : p.tables.exec = Jvm.exec) (hb : c.code = cc) (hF : rk_Fr s m args meth D cl Ad tbl xw fty cln own lk cs) {pc idx kd ci k t : Nat} {fs : List tk_F} {f : tk_F} {ft : FieldType × Bool} {lo : List (Nat × tk_V)} {v a : tk_V} {w : tk_W} {rf : List Nat} {fa : tk_FA} (hlk1 : rk_lk lk idx = some (kd, ci, k)) (hkd : kd = 0 ∨ kd = 1) (hdg : decode cc pc = .ok (.putfield idx, 3)) (hT : TY.1[t]? = some (.inl (ci, fs))) (hf : fs[k]? = some f) (hft : (fty[ci]?).bind (fun z => z[k]?) = some ft) (hfit : tk_fits w.1 f v = true) (hbt : tk_bt w.1 ft.1 v = true) (hft2 : ft.2 = false) (ha : a.1 = 2) (hra : rf[a.2.1]? = some t) (hm : (t, tk_rg TY t k) ∈ mods)
    (hstep : ∀ (vals : List Int) (rads : List Nat) (ws : va_W) (j x : Nat) (e e' : va_E) (u : Value), (∀ z ∈ fa, tk_fk vals rads ws z) → rads[a.2.1]? = some x → (∃ k, rads = rads0 ++ k) → ws.map Prod.fst = ads → va_D Ad ws → tk_ob TY ro ads tw ws → ws[j]? = some (x, e) → tw[j]? = some t → tk_g vals rads v u → tk_pos e' k = some u → (∀ i, ¬ i = k → tk_pos e' i = tk_pos e i) → X ws → X' (ws.set j (x, e')))
    (kk : tk_St (rk_KW p l e R s m args below meth c Q) nL (tk_hr mods ws0 TY ro X' ads tw s D cl Ad vals0 rads0) (pc + 3) (lo, [], w, rf, fa.filter (tk_kpa rf t))) : tk_St (rk_KW p l e R s m args below meth c Q) nL (tk_hr mods ws0 TY ro X ads tw s D cl Ad vals0 rads0) pc (lo, [v, a], w, rf, fa) := by
  obtain ⟨hts, hxw, hown, hK, hA, hcl, hlk, hini, hac, hcs⟩ := hF
  intro vals rads H locs ls stk lc hH hR hl hL hS
  dsimp only at hH hR hL hS
  obtain ⟨u, k0, rfl, gu, hS0⟩ := hS.cons
  obtain ⟨va, k1, rfl, hg, hS1⟩ := hS0.cons
  have hk1 := hS1.nil
  subst hk1
  obtain ⟨x, hax, rfl⟩ := tk_g2 hg ha
  obtain ⟨hv0, hr0, h3, ws, h4, h5, h6, h7, h8, hun, h9⟩ := id hR
  obtain ⟨x', hax', hty⟩ := h3.get hra
  rw [hax] at hax'
  cases hax'
  obtain ⟨j, e1, hw, hj, hc1⟩ := tk_cell h4 h5 hty
  unfold tk_cl at hc1
  rw [hT] at hc1
  obtain ⟨vs, rfl, hvl, hvs⟩ := hc1
  have hkl : k < vs.length := by rw [hvl]; exact (List.getElem?_eq_some_iff.mp hf).1
  have hfv := tk_fits_ok (ro := ro) (reg := TY.2.1) (ads := ads) (tw := tw) t k hH.1 gu hfit
  obtain ⟨hn, hfi⟩ := tk_bt_ok hH.1 gu hbt
  have hpd : ∀ i, ¬ i = k → tk_pos (.inr (ci, vs.set k u)) i = tk_pos (.inr (ci, vs)) i := fun i hi => List.getElem?_set_ne (Ne.symm hi)
  have fin : ∀ (H1 : Heap) (locs1 : List Loc), va_P D cl (ws.set j (x, .inr (ci, vs.set k u))) H1 → va_D Ad (ws.set j (x, .inr (ci, vs.set k u))) → va_S Ad s.heap H1 locs1 → rk_KW p l e R s m args below meth c Q (pc + 3) ls [] H1 locs1 0 0 := fun H1 locs1 hP1 hD1 hS1' => by
    refine kk vals rads H1 locs1 ls _ lc hH ⟨hv0, hr0, h3, _, by rw [rk_map_set hw]; exact h4, tk_A2_setR ?_ h5 hj, hP1, hD1, hS1', ⟨tk_un_tr hun.1 (tk_un_set (mods := [(t, tk_rg TY t k)]) hw hj (fun i hi => hpd i (fun z => hi (by rw [z]; exact List.mem_singleton.mpr rfl))) ⟨k, List.mem_singleton.mpr rfl⟩) (fun z hz => by rw [List.mem_singleton.mp hz]; exact hm), hstep vals rads ws j x _ _ u h9 hax hr0 h4 h7 (tk_ob_of h4 h5) hw hj gu (List.getElem?_set_self hkl) hpd hun.2⟩, fun z hz => tk_fk_oth h3 h4 h7 hw hj (List.mem_filter.mp hz).2 (h9 z (List.mem_filter.mp hz).1)⟩ hl hL trivial
    show tk_cl TY ro ads tw s t _
    unfold tk_cl
    rw [hT]
    refine ⟨_, rfl, by rw [List.length_set]; exact hvl, fun i f2 v2 hf2 hv2 => ?_⟩
    by_cases ei : k = i
    · subst ei
      rw [List.getElem?_set_self hkl] at hv2
      cases hv2
      rw [hf] at hf2
      cases hf2
      exact hfv.1
    · rw [List.getElem?_set_ne ei] at hv2
      exact hvs i f2 v2 hf2 hv2
  have hr := hlk _ (rk_lk_mem hlk1)
  obtain ⟨tf, htf, htk⟩ := Option.bind_eq_some_iff.mp hft
  rcases hkd with rfl | rfl
  · obtain ⟨q, hq, hkN, hm1⟩ := hr
    obtain ⟨c1, c2, -, tf', htf', hlenT, hT2⟩ := hcl _ _ hq
    cases htf.symm.trans htf'
    obtain ⟨t1, t2⟩ := hT2 k ft htk
    exact va_put (C := q.1) (T := q.2.1) (N := q.2.2) hx hb hts c1 _ (rk_ty hlenT hT2) c2 hown hK h6 h7 h8 j hw hq k hkN (hts _ hm1) (fun _ h9 => h9) (t2.trans hft2) t1 hn hfi hkl hdg fin
  · obtain ⟨q, host, hq, hkN, hm1⟩ := hr
    obtain ⟨c1, c2, -, tf', htf', hlenT, hT2⟩ := hcl _ _ hq
    cases htf.symm.trans htf'
    obtain ⟨t1, t2⟩ := hT2 k ft htk
    exact va_putN (C := q.1) (T := q.2.1) (N := q.2.2) hx hb hts c1 _ (rk_ty hlenT hT2) c2 hown hK h6 h7 h8 j hw hq k hkN (va_Nw.use rfl (hxw _ hm1)) (fun _ h9 => h9) (t2.trans hft2) t1 hn hfi hkl hdg fin
end TKHS
end MH26_2
section MH26_3
/-! ===== the class: Tales.copyFrom: what holds between its steps ===== -/
/-- rows of field k are like: of TALES jD (kind q) and jS (kind q') -/
def gc_E (tw : List Nat) (q q' : Nat × Nat × Nat) (jD jS k : Nat) (ws : va_W) : Prop := ∀ (yD yS yo yo' jo jo' i : Nat) (eD eS eo eo' : va_E), ws[jD]? = some (yD, eD) → ws[jS]? = some (yS, eS) → tk_pos eD k = some (.ref yo) → tk_pos eS k = some (.ref yo') → ws[jo]? = some (yo, eo) → ws[jo']? = some (yo', eo') → tw[jo]? = some (if k = 0 then q.2.1 else q.2.2) → tw[jo']? = some (if k = 0 then q'.2.1 else q'.2.2) → tk_pos eo i = tk_pos eo' i
def gc_Z1 (tw : List Nat) (q q' : Nat × Nat × Nat) (jD jS : Nat) (ws : va_W) : Prop := gc_XA (fun j => ¬ j = jD) tw ws ∧ gc_XS tw ws ∧ gc_E tw q q' jD jS 0 ws
def gc_Z2 (tw : List Nat) (q q' : Nat × Nat × Nat) (jD jS : Nat) (ws : va_W) : Prop := gc_Z1 tw q q' jD jS ws ∧ gc_E tw q q' jD jS 2 ws
def gc_TZ : tk_TT := (gc_ty, gc_reg, gc_rgn, gc_FX, fun _ _ _ _ _ => false)
section GCP
variable {ads tw : List Nat} {q q' : Nat × Nat × Nat} {jD jS : Nat}
theorem gc_E_st (hq : q ∈ gc_rl) (hq' : q' ∈ gc_rl) (hD : tw[jD]? = some q.1) (hS : tw[jS]? = some q'.1) {k : Nat} (hk : k = 0 ∨ k = 2) (m : List (Nat × Nat)) (ws ws' : va_W) (hm : ws'.map Prod.fst = ws.map Prod.fst) (hF : ∀ z ∈ m, ¬ z ∈ gc_FX) (hun : tk_un gc_TZ m tw ws ws') (hX : gc_E tw q q' jD jS k ws) : gc_E tw q q' jD jS k ws' := by
  intro yD yS yo yo' jo jo' i eD eS eo eo' hwD hwS pD pS hwo hwo' hto hto'
  obtain ⟨⟨f0, f2, f6, fo, fa⟩, r1, r2, r3⟩ := gc_rl_ok _ hq
  obtain ⟨⟨f0', f2', f6', fo', fa'⟩, r1', r2', r3'⟩ := gc_rl_ok _ hq'
  obtain ⟨aD, hD0⟩ := gc_map_back hm hwD
  obtain ⟨aS, hS0⟩ := gc_map_back hm hwS
  obtain ⟨ao, ho0⟩ := gc_map_back hm hwo
  obtain ⟨ao', ho0'⟩ := gc_map_back hm hwo'
  obtain ⟨b1, g1, g1', -⟩ := hun _ _ _ hD0
  obtain ⟨b2, g2, g2', -⟩ := hun _ _ _ hS0
  obtain ⟨b3, g3, g3', -⟩ := hun _ _ _ ho0
  obtain ⟨b4, g4, g4', -⟩ := hun _ _ _ ho0'
  rw [hwD] at g1
  rw [hwS] at g2
  rw [hwo] at g3
  rw [hwo'] at g4
  cases g1
  cases g2
  cases g3
  cases g4
  have kk : ∀ (t : Nat) (i : Nat), gc_rgn t = some gc_id → tk_rg gc_TZ t i = i := fun t i e => by
    show (match gc_rgn t with
      | none => 0
      | some g => g i) = i
    rw [e]
    rfl
  have k0 : ∀ (t : Nat) (i : Nat), gc_rgn t = none → tk_rg gc_TZ t i = 0 := fun t i e => by
    show (match gc_rgn t with
      | none => 0
      | some g => g i) = 0
    rw [e]
  have hn : ∀ z, z ∈ gc_FX → ¬ z ∈ m := fun z hz hzm => hF z hzm hz
  rw [g3' i _ hto (by
    rcases hk with rfl | rfl
    · rw [if_pos rfl, k0 _ _ r2]; exact hn _ fo
    · rw [if_neg (by decide), k0 _ _ r3]; exact hn _ fa), g4' i _ hto' (by
    rcases hk with rfl | rfl
    · rw [if_pos rfl, k0 _ _ r2']; exact hn _ fo'
    · rw [if_neg (by decide), k0 _ _ r3']; exact hn _ fa')]
  refine hX yD yS yo yo' jo jo' i aD aS ao ao' hD0 hS0 ?_ ?_ ho0 ho0' hto hto'
  · rw [← g1' k _ hD (by
      rw [kk _ _ r1]
      rcases hk with rfl | rfl
      · exact hn _ f0
      · exact hn _ f2)]
    exact pD
  · rw [← g2' k _ hS (by
      rw [kk _ _ r1']
      rcases hk with rfl | rfl
      · exact hn _ f0'
      · exact hn _ f2')]
    exact pS
theorem gc_xsZ1 (hq : q ∈ gc_rl) (hq' : q' ∈ gc_rl) (hD : tw[jD]? = some q.1) (hS : tw[jS]? = some q'.1) : tk_xs gc_TZ (gc_Z1 tw q q' jD jS) ads tw :=
  ⟨fun m ws ws' hm hF hun hX => ⟨gc_xsA m ws ws' hm hF hun hX.1, gc_xsS m ws ws' hm hF hun hX.2.1, gc_E_st hq hq' hD hS (Or.inl rfl) m ws ws' hm hF hun hX.2.2⟩, fun _ _ _ _ _ _ _ _ _ _ _ _ _ _ _ h => nomatch h⟩
theorem gc_xsZ2 (hq : q ∈ gc_rl) (hq' : q' ∈ gc_rl) (hD : tw[jD]? = some q.1) (hS : tw[jS]? = some q'.1) : tk_xs gc_TZ (gc_Z2 tw q q' jD jS) ads tw :=
  ⟨fun m ws ws' hm hF hun hX => ⟨(gc_xsZ1 (ads := ads) hq hq' hD hS).1 m ws ws' hm hF hun hX.1, gc_E_st hq hq' hD hS (Or.inr rfl) m ws ws' hm hF hun hX.2⟩, fun _ _ _ _ _ _ _ _ _ _ _ _ _ _ _ h => nomatch h⟩
theorem gc_xsZ0 : tk_xs gc_TZ (gc_X tw) ads tw := ⟨fun m ws ws' hm hF hun hX => gc_xs1 m ws ws' hm hF hun hX, fun _ _ _ _ _ _ _ _ _ _ _ _ _ _ _ h => nomatch h⟩
/-- cells at one address are one -/
theorem gc_one {A : Nat → Prop} {ws : va_W} (h7 : va_D A ws) {i j y : Nat} {e e' : va_E} (h1 : ws[i]? = some (y, e)) (h2 : ws[j]? = some (y, e')) : i = j := h7.1 i j _ _ h1 h2 rfl
/-- an array of D's is overwritten by S's: others' rows stay good -/
theorem gc_XA_cpy (hq : q ∈ gc_rl) (hD : tw[jD]? = some q.1) {A : Nat → Prop} {ws : va_W} {k q1 x1 yD : Nat} {e1 e1' eD : va_E} (hk : k = 0 ∨ k = 2) (h7 : va_D A ws) (hwD : ws[jD]? = some (yD, eD)) (pD : tk_pos eD k = some (.ref x1)) (hw1 : ws[q1]? = some (x1, e1)) (ht1 : tw[q1]? = some (if k = 0 then q.2.1 else q.2.2)) (hX : gc_XA (fun j => ¬ j = jD) tw ws) (hXS : gc_XS tw ws) : gc_XA (fun j => ¬ j = jD) tw (ws.set q1 (x1, e1')) := by
  intro t to ta j jo ja y yo ya r e eo ea n x v hqt hP hj hjo hja hw hwo hwa p0 p2 p6 hr px pv hx
  obtain ⟨d1, d2, d3, d4, d5⟩ := gc_rl_ne _ hqt _ hq
  obtain ⟨-, -, d6, -, -⟩ := gc_rl_ne _ hq _ hqt
  have nj : ¬ q1 = j := by
    intro z
    rw [z, hj] at ht1
    have := Option.some.inj ht1
    rcases hk with rfl | rfl
    · rw [if_pos rfl] at this; exact d1 this
    · rw [if_neg (by decide)] at this; exact d2 this
  rw [List.getElem?_set_ne nj] at hw
  have hown : ∀ z : Nat, (z = jo ∨ z = ja) → ¬ q1 = z := by
    rintro z hz rfl
    have et : (t, to, ta) = q := by
      rcases hz with rfl | rfl
      · rw [hjo] at ht1
        have := Option.some.inj ht1
        rcases hk with rfl | rfl
        · rw [if_pos rfl] at this; exact d4 this
        · rw [if_neg (by decide)] at this; exact absurd this d3
      · rw [hja] at ht1
        have := Option.some.inj ht1
        rcases hk with rfl | rfl
        · rw [if_pos rfl] at this; exact absurd this.symm d6
        · rw [if_neg (by decide)] at this; exact d5 this
    subst et
    have hsame : tk_pos e k = some (.ref x1) := by
      rcases hz with rfl | rfl
      · rw [List.getElem?_set_self (List.getElem?_eq_some_iff.mp hw1).1] at hwo
        cases hwo
        rw [hjo] at ht1
        have := Option.some.inj ht1
        rcases hk with rfl | rfl
        · exact p0
        · rw [if_neg (by decide)] at this; exact absurd this d3
      · rw [List.getElem?_set_self (List.getElem?_eq_some_iff.mp hw1).1] at hwa
        cases hwa
        rw [hja] at ht1
        have := Option.some.inj ht1
        rcases hk with rfl | rfl
        · rw [if_pos rfl] at this; exact absurd this.symm d6
        · exact p2
    exact hP (hXS t to ta j jD y yD x1 k e eD hqt hk hj hD hw hwD hsame pD)
  rw [List.getElem?_set_ne (hown jo (Or.inl rfl))] at hwo
  rw [List.getElem?_set_ne (hown ja (Or.inr rfl))] at hwa
  exact hX t to ta j jo ja y yo ya r e eo ea n x v hqt hP hj hjo hja hw hwo hwa p0 p2 p6 hr px pv hx
theorem gc_XS_cpy (hq : q ∈ gc_rl) {ws : va_W} {k q1 x1 : Nat} {e1 e1' : va_E} (hw1 : ws[q1]? = some (x1, e1)) (ht1 : tw[q1]? = some (if k = 0 then q.2.1 else q.2.2)) (hXS : gc_XS tw ws) : gc_XS tw (ws.set q1 (x1, e1')) :=
  gc_XS_set hw1 (fun z hz ht => by
    exfalso
    obtain ⟨d1, d2, -⟩ := gc_rl_ne _ hz _ hq
    rw [ht1] at ht
    have := Option.some.inj ht
    split at this
    · exact d1 this.symm
    · exact d2 this.symm) hXS
/-- the rows that were copied are like -/
theorem gc_E_cpy (hq : q ∈ gc_rl) (hq' : q' ∈ gc_rl) (hne : ¬ q = q') (hD : tw[jD]? = some q.1) (hS : tw[jS]? = some q'.1) {A : Nat → Prop} {ws : va_W} {k q0 q1 x0 x1 yD yS : Nat} {e0 e1 e1' eD eS : va_E} (hk : k = 0 ∨ k = 2) (h7 : va_D A ws) (hwD : ws[jD]? = some (yD, eD)) (hwS : ws[jS]? = some (yS, eS)) (pD : tk_pos eD k = some (.ref x1)) (pS : tk_pos eS k = some (.ref x0)) (hw0 : ws[q0]? = some (x0, e0)) (hw1 : ws[q1]? = some (x1, e1)) (ht0 : tw[q0]? = some (if k = 0 then q'.2.1 else q'.2.2)) (ht1 : tw[q1]? = some (if k = 0 then q.2.1 else q.2.2)) (hel : ∀ i, tk_pos e1' i = tk_pos e0 i) : gc_E tw q q' jD jS k (ws.set q1 (x1, e1')) := by
  intro yD2 yS2 yo yo' jo jo' i eD2 eS2 eo eo' hwD2 hwS2 pD2 pS2 hwo hwo' hto hto'
  obtain ⟨d1, d2, d3, d4, d5⟩ := gc_rl_ne _ hq _ hq
  obtain ⟨c1, c2, c3, c4, c5⟩ := gc_rl_ne _ hq' _ hq
  have nD : ¬ q1 = jD := by
    intro z
    rw [z, hD] at ht1
    have := Option.some.inj ht1
    split at this
    · exact d1 this
    · exact d2 this
  have nS : ¬ q1 = jS := by
    intro z
    rw [z, hS] at ht1
    have := Option.some.inj ht1
    split at this
    · exact c1 this
    · exact c2 this
  rw [List.getElem?_set_ne nD, hwD] at hwD2
  cases hwD2
  rw [List.getElem?_set_ne nS, hwS] at hwS2
  cases hwS2
  rw [pD] at pD2
  cases pD2
  rw [pS] at pS2
  cases pS2
  have n01 : ¬ q1 = q0 := by
    intro z
    rw [z, ht0] at ht1
    have := Option.some.inj ht1
    rcases hk with rfl | rfl
    · rw [if_pos rfl, if_pos rfl] at this; exact hne (c4 this).symm
    · rw [if_neg (by decide), if_neg (by decide)] at this; exact hne (c5 this).symm
  have hl1 : q1 < ws.length := (List.getElem?_eq_some_iff.mp hw1).1
  have e1j : jo = q1 := by
    by_cases z : q1 = jo
    · exact z.symm
    · rw [List.getElem?_set_ne z] at hwo
      exact gc_one h7 hwo hw1
  subst e1j
  rw [List.getElem?_set_self hl1] at hwo
  cases hwo
  have e0j : jo' = q0 := by
    by_cases z : jo = jo'
    · exfalso
      rw [← z] at hto'
      rw [ht1] at hto'
      have := Option.some.inj hto'
      rcases hk with rfl | rfl
      · rw [if_pos rfl, if_pos rfl] at this; exact hne (c4 this.symm).symm
      · rw [if_neg (by decide), if_neg (by decide)] at this; exact hne (c5 this.symm).symm
    · rw [List.getElem?_set_ne z] at hwo'
      exact gc_one h7 hwo' hw0
  subst e0j
  rw [List.getElem?_set_ne n01, hw0] at hwo'
  cases hwo'
  exact hel i
/-- rows of another field stay like -/
theorem gc_E_oth (hq : q ∈ gc_rl) (hq' : q' ∈ gc_rl) (hD : tw[jD]? = some q.1) (hS : tw[jS]? = some q'.1) {ws : va_W} {q1 x1 : Nat} {e1 e1' : va_E} (hw1 : ws[q1]? = some (x1, e1)) (ht1 : tw[q1]? = some q.2.2) (hX : gc_E tw q q' jD jS 0 ws) : gc_E tw q q' jD jS 0 (ws.set q1 (x1, e1')) := by
  intro yD2 yS2 yo yo' jo jo' i eD2 eS2 eo eo' hwD2 hwS2 pD2 pS2 hwo hwo' hto hto'
  obtain ⟨d1, d2, d3, -, -⟩ := gc_rl_ne _ hq _ hq
  obtain ⟨c1, c2, c3, -, -⟩ := gc_rl_ne _ hq' _ hq
  have nn : ∀ (j t : Nat), tw[j]? = some t → ¬ t = q.2.2 → ¬ q1 = j := by
    intro j t hj ht z
    rw [z, hj] at ht1
    exact ht (Option.some.inj ht1)
  rw [if_pos rfl] at hto hto'
  rw [List.getElem?_set_ne (nn _ _ hD d2)] at hwD2
  rw [List.getElem?_set_ne (nn _ _ hS c2)] at hwS2
  rw [List.getElem?_set_ne (nn _ _ hto d3)] at hwo
  rw [List.getElem?_set_ne (nn _ _ hto' c3)] at hwo'
  exact hX yD2 yS2 yo yo' jo jo' i eD2 eS2 eo eo' hwD2 hwS2 pD2 pS2 hwo hwo' (by rw [if_pos rfl]; exact hto) (by rw [if_pos rfl]; exact hto')
/-- the count is copied: all is well again -/
theorem gc_cnt (hq : q ∈ gc_rl) (hq' : q' ∈ gc_rl) (hne : ¬ q = q') (hD : tw[jD]? = some q.1) (hS : tw[jS]? = some q'.1) {ro : Nat → Nat → Int → Prop} {A : Nat → Prop} {ws : va_W} {yD yS : Nat} {eD eD' eS : va_E} {u : Value} (h4 : ws.map Prod.fst = ads) (h7 : va_D A ws) (hob : tk_ob gc_TZ ro ads tw ws) (hwD : ws[jD]? = some (yD, eD)) (hwS : ws[jS]? = some (yS, eS)) (pS : tk_pos eS 6 = some u) (pu : tk_pos eD' 6 = some u) (hpd : ∀ i, ¬ i = 6 → tk_pos eD' i = tk_pos eD i) (hX : gc_Z2 tw q q' jD jS ws) : gc_X tw (ws.set jD (yD, eD')) := by
  obtain ⟨⟨hXA, hXS, hE0⟩, hE2⟩ := hX
  refine ⟨?_, gc_XS_set hwD (fun _ _ _ => ⟨hpd 0 (by decide), hpd 2 (by decide)⟩) hXS⟩
  intro t to ta j jo ja y yo ya r e eo ea n x v hqt _ hj hjo hja hw hwo hwa p0 p2 p6 hr px pv hx
  obtain ⟨d1, d2, d3, d4, d5⟩ := gc_rl_ne _ hq _ hqt
  have njo : ¬ jD = jo := by
    intro z; rw [← z, hD] at hjo; exact d1 (Option.some.inj hjo)
  have nja : ¬ jD = ja := by
    intro z; rw [← z, hD] at hja; exact d2 (Option.some.inj hja)
  rw [List.getElem?_set_ne njo] at hwo
  rw [List.getElem?_set_ne nja] at hwa
  by_cases ej : jD = j
  · subst ej
    rw [List.getElem?_set_self (List.getElem?_eq_some_iff.mp hwD).1] at hw
    cases hw
    have et : t = q.1 := by rw [hD] at hj; exact (Option.some.inj hj).symm
    have eq1 : (t, to, ta) = q := by
      have key : ∀ z ∈ gc_rl, ∀ z' ∈ gc_rl, z.1 = z'.1 → z = z' := by decide +kernel
      exact key _ hqt _ hq et
    subst eq1
    rw [pu] at p6
    cases p6
    rw [hpd 0 (by decide)] at p0
    rw [hpd 2 (by decide)] at p2
    -- S's rows
    have hty : tk_ty ads tw q'.1 yS := by
      refine ⟨jS, ?_, hS⟩
      rw [← h4, List.getElem?_map, hwS]
      rfl
    have hcell : ∀ k t', (k = 0 ∨ k = 2) → t' = (if k = 0 then q'.2.1 else q'.2.2) → ∃ (yo' jo' : Nat) (eo' : va_E), tk_pos eS k = some (.ref yo') ∧ ws[jo']? = some (yo', eo') ∧ tw[jo']? = some t' := by
      intro k t' hk ht'
      obtain ⟨j2, e2, hw2, hm⟩ := hob _ _ hty
      have := gc_one h7 hw2 hwS
      subst this
      rw [hw2] at hwS
      cases hwS
      have hT : ∃ fs : List tk_F, gc_ty[q'.1]? = some (.inl (9, fs)) ∧ fs[0]? = some (2, (q'.2.1 : Int), 0) ∧ fs[2]? = some (2, (q'.2.2 : Int), 0) := by
        have hq2 := hq'
        simp only [gc_rl, List.mem_cons, List.not_mem_nil, or_false] at hq2
        rcases hq2 with rfl | rfl | rfl
        all_goals exact ⟨_, rfl, rfl, rfl⟩
      obtain ⟨fs, hT, hf0, hf2⟩ := hT
      rw [show gc_TZ.1[q'.1]? = some (.inl (9, fs)) from hT] at hm
      obtain ⟨vs, rfl, hvl, hvs⟩ := hm
      have hfk : fs[k]? = some (2, (t' : Int), 0) := by
        rcases hk with rfl | rfl
        · rw [ht', if_pos rfl]; exact hf0
        · rw [ht', if_neg (by decide)]; exact hf2
      have hkl : k < vs.length := by rw [hvl]; exact (List.getElem?_eq_some_iff.mp hfk).1
      have hv : vs[k]? = some vs[k] := List.getElem?_eq_getElem hkl
      have hfv := hvs k _ _ hfk hv
      unfold tk_fv at hfv
      obtain ⟨yo', ey, hty'⟩ := hfv
      have hty' : tk_ty ads tw t' yo' := by simpa using hty'
      obtain ⟨jo', g1, g2⟩ := hty'
      rw [← h4, List.getElem?_map] at g1
      obtain ⟨z, hz, ez⟩ := Option.map_eq_some_iff.mp g1
      exact ⟨yo', jo', z.2, hv.trans (by rw [ey]), by rw [hz, ← ez], g2⟩
    obtain ⟨yo', jo', eo', a1, a2, a3⟩ := hcell 0 q'.2.1 (Or.inl rfl) (by rw [if_pos rfl])
    obtain ⟨ya', ja', ea', b1, b2, b3⟩ := hcell 2 q'.2.2 (Or.inr rfl) (by rw [if_neg (by decide)])
    have hx0 := hE0 _ yS yo yo' jo jo' r eD eS eo eo' hwD hwS p0 a1 hwo a2 (by rw [if_pos rfl]; exact hjo) (by rw [if_pos rfl]; exact a3)
    have hx2 := hE2 _ yS ya ya' ja ja' r eD eS ea ea' hwD hwS p2 b1 hwa b2 (by rw [if_neg (by decide)]; exact hja) (by rw [if_neg (by decide)]; exact b3)
    rw [hx0] at px
    rw [hx2] at pv
    have nSD : ¬ jS = jD := by
      intro z
      rw [z, hD] at hS
      have key : ∀ z ∈ gc_rl, ∀ z' ∈ gc_rl, z.1 = z'.1 → z = z' := by decide +kernel
      exact hne (key _ hq _ hq' (Option.some.inj hS))
    exact hXA q'.1 q'.2.1 q'.2.2 jS jo' ja' yS yo' ya' r eS eo' ea' n x v hq' nSD hS a3 b3 hwS a2 b2 a1 b1 pS hr px pv hx
  · rw [List.getElem?_set_ne ej] at hw
    exact hXA t to ta j jo ja y yo ya r e eo ea n x v hqt (fun z => ej z.symm) hj hjo hja hw hwo hwa p0 p2 p6 hr px pv hx
end GCP
end MH26_3
section MH26_4
/-! ===== the class: Tales.copyFrom whole ===== -/
def gc_lo2 : List (Nat × tk_V) := [(0, (2, 0, 0, 0)), (1, (2, 1, 0, 0))]
def gc_cutS (p : Nat) (rf : List Nat) (T : tk_S) : Nat → tk_S → Option Bool := fun pc st => cond (Nat.beq pc p) (some (tk_hitS gc_TZ (tk_id ([], []) rf) T st)) none
def gc_Tc (q q' : Nat × Nat × Nat) (k : Nat) (FA : tk_FA) : tk_S := (gc_lo2, [(0, 0, 0, 30), (0, 0, 0, 0), (2, 2, 0, 0), (0, 0, 0, 0), (2, 3, 0, 0)], ([], []), [q.1, q'.1, (if k = 0 then q.2.1 else q.2.2), (if k = 0 then q'.2.1 else q'.2.2)], (0, tk_ky k, (2, 2, 0, 0)) :: (1, tk_ky k, (2, 3, 0, 0)) :: FA)
def gc_Tp (q q' : Nat × Nat × Nat) (FA : tk_FA) : tk_S := (gc_lo2, [(0, 1, 1, 0), (2, 0, 0, 0)], ([(0, 30)], []), [q.1, q'.1], (1, tk_ky 6, (0, 1, 1, 0)) :: FA)
def gc_aft (T : tk_S) (t : Nat) : tk_S := (T.1, [], T.2.2.1, T.2.2.2.1, T.2.2.2.2.filter (tk_kpa T.2.2.2.1 t))
def gc_c0 : tk_Ca := fun _ _ _ _ _ => none
def gc_go (TY : tk_TT) (ms : List (Nat × Nat)) : Nat × tk_S → Option (tk_X ⊕ List (Nat × tk_S)) := tk_go1 (tk_fun ms TY gk_fty gk_mci gc_c0 gk_m117) gk_m117.2.2.2.2.1 gk_m117.1
def gc_emp (r : Option (List tk_X)) : Bool := match r with
  | some [] => true
  | _ => false
theorem gc_emp_ok {r : Option (List tk_X)} (h : gc_emp r = true) : r = some [] := by
  unfold gc_emp at h
  split at h
  · rfl
  · cases h
/-- the runs between the steps by hand -/
def gc_cpr (q q' : Nat × Nat × Nat) (FA FY : tk_FA) (ms : List (Nat × Nat)) : Bool :=
  gc_emp (tk_loop (gc_go gc_TZ ms) (gc_cutS 12 [q.1, q'.1] (gc_Tc q q' 0 FA)) 50 [(0, (gc_lo2, [], ([], []), [q.1, q'.1], FA))] []) &&
  (gc_emp (tk_loop (gc_go gc_TZ ms) (gc_cutS 42 [q.1, q'.1] (gc_Tc q q' 2 FA)) 90 [(15, gc_aft (gc_Tc q q' 0 FA) q.2.1)] []) &&
  (gc_emp (tk_loop (gc_go gc_TZ ms) (gc_cutS 95 [q.1, q'.1] (gc_Tp q q' FA)) 90 [(45, gc_aft (gc_Tc q q' 2 FA) q.2.2)] []) &&
  (match tk_loop (tk_go1H tk_hk0 (tk_fun ms gc_TZ gk_fty gk_mci gc_c0 gk_m117) gk_m117.2.2.2.2.1 gk_m117.1) (fun _ _ => none) 50 [(98, gc_aft (gc_Tp q q' FA) q.1)] [] with
  | some xs => tk_cov gc_TZ (tk_id ([], []) [q.1, q'.1]) xs [(none, ([], []), [q.1, q'.1], FY)]
  | none => false)))
theorem gc_fact {vals : List Int} {rads : List Nat} {ws : va_W} {A : Nat → Prop} {r k j y : Nat} {v : tk_V} {e : va_E} (h7 : va_D A ws) (h : tk_fk vals rads ws (r, tk_ky k, v)) (hy : rads[r]? = some y) (hw : ws[j]? = some (y, e)) : ∃ u, tk_pos e k = some u ∧ tk_g vals rads v u := by
  obtain ⟨y2, j2, i, e2, u, g1, g2, g3, g4, g5⟩ := h
  dsimp only at g1 g2
  rw [hy] at g1
  cases g1
  have hi : i = k := by
    have := Option.some.inj (g2.symm.trans (show tk_num vals (tk_ky k) = some ((k : Nat) : Int) from rfl))
    omega
  subst hi
  have := h7.1 j j2 _ _ hw g3 rfl
  subst this
  rw [hw] at g3
  cases g3
  exact ⟨u, g4, g5⟩
section GCQ
variable {l : Launch} {D : va_G} {xt : tk_XT} {ro : Nat → Nat → Int → Prop} {ads tw : List Nat}
set_option maxHeartbeats 8000000 in
theorem gc_copyFrom (hxt : tk_xtok xt) {q q' : Nat × Nat × Nat} {FA FY : tk_FA} {ms : List (Nat × Nat)} (hq : q ∈ gc_rl) (hq' : q' ∈ gc_rl) (hne : ¬ q = q') (hm : tk_in ms q.2.1 0 = true ∧ tk_in ms q.2.2 0 = true ∧ tk_in ms q.1 6 = true) (hfo : ∀ i v, tk_fv ro gc_reg ads tw q'.2.1 i (3, (q'.2.1 : Int), 0) v → tk_fv ro gc_reg ads tw q.2.1 i (3, (q.2.1 : Int), 0) v) (hfa : ∀ i v, tk_fv ro gc_reg ads tw q'.2.2 i (3, (q'.2.2 : Int), 0) v → tk_fv ro gc_reg ads tw q.2.2 i (3, (q.2.2 : Int), 0) v) (hTD : ∃ fs, gc_ty[q.1]? = some (.inl (9, fs)) ∧ fs[6]? = some (0, 0, 30)) (hTo : gc_ty[q.2.1]? = some (.inr (.int, 30, (3, (q.2.1 : Int), 0))) ∧ gc_ty[q'.2.1]? = some (.inr (.int, 30, (3, (q'.2.1 : Int), 0)))) (hrun : gc_cpr q q' FA FY ms = true) : tk_KS l D gk_cl gk_tbl gk_xw xt gk_MN gk_P gc_TY ro (gc_X tw) ads tw 1 (117, [(2, 0, 0, 0), (2, 1, 0, 0)], ([], []), [q.1, q'.1], FA, ([(none, ([], []), [q.1, q'.1], FY)], ms)) := by
  unfold gc_cpr at hrun
  rw [Bool.and_eq_true, Bool.and_eq_true, Bool.and_eq_true] at hrun
  obtain ⟨hr0, hr1, hr2, hr3⟩ := hrun
  have hr0 := gc_emp_ok hr0
  have hr1 := gc_emp_ok hr1
  have hr2 := gc_emp_ok hr2
  intro qn hqn
  have hqn' : qn = gk_N117 := by
    have : gk_MN[117]? = some gk_N117 := by decide +kernel
    rw [show gk_MN[117]? = some qn from hqn] at this
    exact Option.some.inj this
  subst hqn'
  have hM : gk_P[117]? = some gk_m117 := by rfl
  refine ⟨gk_m117, hM, by decide +kernel, fun vals rads ws av sz hH h3 hA2 h4 h9 _ => ?_⟩
  obtain ⟨hgw, hxo, hcl, hac, hlenM, hmok, hmci⟩ := id gk_rok
  obtain ⟨m1, m2, m3, m4, m5, m6, m7, m8, m9⟩ := hmok 117 gk_N117 gk_m117 hqn hM
  refine Met.ofW (cc := gk_N117.2.2) (maxL := gk_m117.2.1) (ret := gk_m117.2.2.2.2.1) m1 rfl ?_
  intro p e s m args below meth c s₁ B hml hv
  obtain ⟨rfl, hsz, hP, hK, hD0, hC, hxw, hXt, hXw⟩ := hv
  have hts0 := atoms_spec (ws := Jvm.Cond.code gk_N117.2.1 gk_N117.2.2 gk_m117.2.1 gk_m117.2.2.2.2.1 :: gk_tbl) B.pre
  have hts : ∀ w ∈ gk_tbl, w.before av.toArray s = true := fun w hw => hts0 w (List.mem_cons_of_mem _ hw)
  have hown : s.vm.findClass gk_N117.1 = some m.cls := by rw [← m2]; exact findClass_of_methodNamed B.named
  have hnm : meth.name = gk_N117.2.1.name := (name_of_methodNamed B.named B.method).1
  subst hsz
  have hF : rk_Fr s m av.toArray meth D gk_cl (va_A ws s.heap.size) gk_tbl gk_xw gk_fty gk_cln gk_N117.1 gk_m117.2.2.1 gk_m117.2.2.2.1 := ⟨hts, hxw, hown, hK, fun z hz => Or.inr hz, hcl, fun r hr => (m7 r hr).1, fun hz => by rw [hnm]; exact m8 hz, hac, m9⟩
  have hins : ∀ r ∈ gk_m117.1, decode gk_N117.2.2 r.1 = .ok r.2 := m6
  have hck : ∀ r ∈ gk_m117.2.2.1, rk_cok gk_tbl gk_xw gk_MN gk_P gk_N117.1 r := fun r hr => (m7 r hr).2.1
  have hkk : ∀ r ∈ gk_m117.2.2.1, rk_kok gk_tbl gk_N117.1 r := fun r hr => (m7 r hr).2.2
  -- the two TALES
  obtain ⟨yD, radsT, rfl, hyD, h3'⟩ := h3.cons
  obtain ⟨yS, radsT2, rfl, hyS, h3''⟩ := h3'.cons
  have := h3''.nil
  subst this
  obtain ⟨jD, hjDa, hjD⟩ := id hyD
  obtain ⟨jS, hjSa, hjS⟩ := id hyS
  have hcell : ∀ (ws : va_W) (j y : Nat), ws.map Prod.fst = ads → ads[j]? = some y → ∃ e, ws[j]? = some (y, e) := by
    intro ws j y hm hj
    rw [← hm, List.getElem?_map] at hj
    obtain ⟨z, hz, ez⟩ := Option.map_eq_some_iff.mp hj
    exact ⟨z.2, by rw [hz, ← ez]⟩
  have hcall : ∀ X : va_W → Prop, tk_SC l D gk_cl gk_tbl gk_xw xt gk_MN gk_P gc_TZ ro X ads tw 0 gc_c0 := fun X f as w rf fa o h => nomatch h
  have hlk12 : rk_lk gk_m117.2.2.1 38 = some (12, 0, 0) := by decide +kernel
  have hlk6 : ∃ kd, (kd = 0 ∨ kd = 1) ∧ rk_lk gk_m117.2.2.1 30 = some (kd, 9, 6) := by
    first
      | exact ⟨0, Or.inl rfl, by decide +kernel⟩
      | exact ⟨1, Or.inr rfl, by decide +kernel⟩
  obtain ⟨kd, hkd, hlk6⟩ := hlk6
  have d12 : decode gk_N117.2.2 12 = .ok (.invokestatic 38, 3) := hins (12, .invokestatic 38, 3) (List.mem_of_getElem? (i := 7) rfl)
  have d42 : decode gk_N117.2.2 42 = .ok (.invokestatic 38, 3) := hins (42, .invokestatic 38, 3) (List.mem_of_getElem? (i := 23) rfl)
  have d95 : decode gk_N117.2.2 95 = .ok (.putfield 30, 3) := hins (95, .putfield 30, 3) (List.mem_of_getElem? (i := 51) rfl)
  obtain ⟨fsD, hTD1, hTD2⟩ := hTD
  have hTA := gc_ta_ty q hq
  have hTA' := gc_ta_ty q' hq'
  obtain ⟨-, ro1, ro2, ro3⟩ := gc_rl_ok _ hq
  -- the last part
  split at hr3
  · next xs hxs =>
    have W98 := tk_runC (l := l) (p := p) (e := e) (R := (headSpec (Jvm.Cond.code gk_N117.2.1 gk_N117.2.2 gk_m117.2.1 gk_m117.2.2.2.2.1 :: gk_tbl) { frames := 0 + 1, cells := 0, slots := 0, locals := 40 * (0 + 1) }).room) (below := below) (mods := ms) (ws0 := ws) (ys := [(none, ([], []), [q.1, q'.1], FY)]) (X := gc_X tw) (TY := gc_TZ) (ro := ro) (l1 := []) (r1 := []) (cut := fun _ _ => none) tk_hk0_ok gc_xsZ0 hxt hXt gk_rok B.exec B.bytes B.notSynchronized B.returns hml hins hF hck hkk (hcall _) (Nat.le_refl _) (Nat.le_refl _) hH h3 (fun _ _ h => nomatch h) hxs hr3 _ (List.mem_singleton.mpr rfl)
    rw [List.append_nil, List.append_nil] at W98
    dsimp only at W98
    have W95 := tk_putG (X := gc_Z2 tw q q' jD jS) (X' := gc_X tw) (TY := gc_TZ) (ro := ro) (v := (0, 1, 1, 0)) (a := (2, 0, 0, 0)) (lo := gc_lo2) (w := ([(0, 30)], [])) (rf := [q.1, q'.1]) (fa := (1, tk_ky 6, (0, 1, 1, 0)) :: FA) (t := q.1) (f := (0, 0, 30)) (ft := (.int, false)) B.exec B.bytes hF hlk6 hkd d95 hTD1 hTD2 (by decide +kernel) (by decide +kernel) (by decide +kernel) rfl rfl rfl (by
        have k1 : tk_rg gc_TZ q.1 6 = 6 := by
          show (match gc_rgn q.1 with
            | none => 0
            | some g => g 6) = 6
          rw [ro1]
          rfl
        rw [k1]
        exact tk_in_ok.mp hm.2.2) (by
        intro vals2 rads2 ws2 j2 x2 e2 e2' u2 hfk hx2 hrd hmap h7 hob hw2 htw2 hgu hpu hpd hX2
        obtain ⟨kr, rfl⟩ := hrd
        cases hx2
        obtain ⟨eS, hwS⟩ := hcell ws2 jS yS hmap hjSa
        obtain ⟨eD, hwD⟩ := hcell ws2 jD yD hmap hjDa
        have := gc_one h7 hw2 hwD
        subst this
        rw [hw2] at hwD
        cases hwD
        obtain ⟨u3, hp3, hg3⟩ := gc_fact h7 (hfk _ List.mem_cons_self) (show (([yD, yS] : List Nat) ++ kr)[1]? = some yS from rfl) hwS
        have hu : u3 = u2 := by
          obtain ⟨z1, rfl, hz1⟩ := tk_g0 hgu rfl
          obtain ⟨z2, rfl, hz2⟩ := tk_g0 hg3 rfl
          rw [hz1] at hz2
          rw [Int32.toInt_inj.mp (Option.some.inj hz2)]
        subst hu
        exact gc_cnt hq hq' hne hjD hjS hmap h7 hob hw2 hwS hp3 hpu hpd hX2) W98
    have W45 := tk_seg (X := gc_Z2 tw q q' jD jS) (TY := gc_TZ) (ro := ro) (gc_xsZ2 hq hq' hjD hjS) hxt hXt gk_rok B.exec B.bytes hml hins hF hck hkk (hcall _) (Nat.le_refl _) (Nat.le_refl _) (cut := gc_cutS 95 [q.1, q'.1] (gc_Tp q q' FA)) (by
        intro pc st hc
        unfold gc_cutS at hc
        cases hb : Nat.beq pc 95 with
        | false => rw [hb] at hc; cases hc
        | true =>
          rw [hb] at hc
          have := Nat.eq_of_beq_eq_true hb
          subst this
          exact tk_hitS_ok hH h3 (Option.some.inj hc) W95) hr2 _ (List.mem_singleton.mpr rfl)
    have W42 := tk_cpyG (X := gc_Z1 tw q q' jD jS) (X' := gc_Z2 tw q q' jD jS) (TY := gc_TZ) (ro := ro) (N := 30) (d := (2, 2, 0, 0)) (a := (2, 3, 0, 0)) (lo := gc_lo2) (w := ([], [])) (rf := [q.1, q'.1, q.2.2, q'.2.2]) (fa := (0, tk_ky 2, (2, 2, 0, 0)) :: (1, tk_ky 2, (2, 3, 0, 0)) :: FA) (t0 := q'.2.2) (t1 := q.2.2) B.exec B.bytes hml hF (Nat.le_refl _) (Nat.le_refl _) hkk hlk12 d42 hTA' hTA hfa rfl rfl rfl rfl (tk_in_ok.mp hm.2.1) (by rw [show gc_TZ.2.2.1 q.2.2 = none from ro3]; rfl) (by
        intro vals2 rads2 ws2 q0 q1 x0 x1 e0 e1 e1' hfk hx0 hx1 hrd hmap h7 hw0 hw1 ht0 ht1 hel hX2
        obtain ⟨kr, rfl⟩ := hrd
        obtain ⟨eS, hwS⟩ := hcell ws2 jS yS hmap hjSa
        obtain ⟨eD, hwD⟩ := hcell ws2 jD yD hmap hjDa
        obtain ⟨u1, hp1, hg1⟩ := gc_fact h7 (hfk _ List.mem_cons_self) (show (([yD, yS] : List Nat) ++ kr)[0]? = some yD from rfl) hwD
        obtain ⟨u2, hp2, hg2⟩ := gc_fact h7 (hfk _ (List.mem_cons_of_mem _ List.mem_cons_self)) (show (([yD, yS] : List Nat) ++ kr)[1]? = some yS from rfl) hwS
        obtain ⟨z1, hz1, rfl⟩ := tk_g2 hg1 rfl
        obtain ⟨z2, hz2, rfl⟩ := tk_g2 hg2 rfl
        rw [hx1] at hz1
        cases hz1
        rw [hx0] at hz2
        cases hz2
        have ht0' : tw[q0]? = some (if 2 = 0 then q'.2.1 else q'.2.2) := by rw [if_neg (by decide)]; exact ht0
        have ht1' : tw[q1]? = some (if 2 = 0 then q.2.1 else q.2.2) := by rw [if_neg (by decide)]; exact ht1
        exact ⟨⟨gc_XA_cpy hq hjD (Or.inr rfl) h7 hwD hp1 hw1 ht1' hX2.1 hX2.2.1, gc_XS_cpy hq hw1 ht1' hX2.2.1, gc_E_oth hq hq' hjD hjS hw1 ht1 hX2.2.2⟩, gc_E_cpy hq hq' hne hjD hjS (Or.inr rfl) h7 hwD hwS hp1 hp2 hw0 hw1 ht0' ht1' hel⟩) W45
    have W15 := tk_seg (X := gc_Z1 tw q q' jD jS) (TY := gc_TZ) (ro := ro) (gc_xsZ1 hq hq' hjD hjS) hxt hXt gk_rok B.exec B.bytes hml hins hF hck hkk (hcall _) (Nat.le_refl _) (Nat.le_refl _) (cut := gc_cutS 42 [q.1, q'.1] (gc_Tc q q' 2 FA)) (by
        intro pc st hc
        unfold gc_cutS at hc
        cases hb : Nat.beq pc 42 with
        | false => rw [hb] at hc; cases hc
        | true =>
          rw [hb] at hc
          have := Nat.eq_of_beq_eq_true hb
          subst this
          exact tk_hitS_ok hH h3 (Option.some.inj hc) W42) hr1 _ (List.mem_singleton.mpr rfl)
    have W12 := tk_cpyG (X := gc_X tw) (X' := gc_Z1 tw q q' jD jS) (TY := gc_TZ) (ro := ro) (N := 30) (d := (2, 2, 0, 0)) (a := (2, 3, 0, 0)) (lo := gc_lo2) (w := ([], [])) (rf := [q.1, q'.1, q.2.1, q'.2.1]) (fa := (0, tk_ky 0, (2, 2, 0, 0)) :: (1, tk_ky 0, (2, 3, 0, 0)) :: FA) (t0 := q'.2.1) (t1 := q.2.1) B.exec B.bytes hml hF (Nat.le_refl _) (Nat.le_refl _) hkk hlk12 d12 hTo.2 hTo.1 hfo rfl rfl rfl rfl (tk_in_ok.mp hm.1) (by rw [show gc_TZ.2.2.1 q.2.1 = none from ro2]; rfl) (by
        intro vals2 rads2 ws2 q0 q1 x0 x1 e0 e1 e1' hfk hx0 hx1 hrd hmap h7 hw0 hw1 ht0 ht1 hel hX2
        obtain ⟨kr, rfl⟩ := hrd
        obtain ⟨eS, hwS⟩ := hcell ws2 jS yS hmap hjSa
        obtain ⟨eD, hwD⟩ := hcell ws2 jD yD hmap hjDa
        obtain ⟨u1, hp1, hg1⟩ := gc_fact h7 (hfk _ List.mem_cons_self) (show (([yD, yS] : List Nat) ++ kr)[0]? = some yD from rfl) hwD
        obtain ⟨u2, hp2, hg2⟩ := gc_fact h7 (hfk _ (List.mem_cons_of_mem _ List.mem_cons_self)) (show (([yD, yS] : List Nat) ++ kr)[1]? = some yS from rfl) hwS
        obtain ⟨z1, hz1, rfl⟩ := tk_g2 hg1 rfl
        obtain ⟨z2, hz2, rfl⟩ := tk_g2 hg2 rfl
        rw [hx1] at hz1
        cases hz1
        rw [hx0] at hz2
        cases hz2
        have ht0' : tw[q0]? = some (if 0 = 0 then q'.2.1 else q'.2.2) := by rw [if_pos rfl]; exact ht0
        have ht1' : tw[q1]? = some (if 0 = 0 then q.2.1 else q.2.2) := by rw [if_pos rfl]; exact ht1
        have hXn : gc_XA (fun j => ¬ j = jD) tw ws2 := fun t to ta j jo ja y yo ya r e eo ea n x v a1 _ => hX2.1 t to ta j jo ja y yo ya r e eo ea n x v a1 trivial
        exact ⟨gc_XA_cpy hq hjD (Or.inl rfl) h7 hwD hp1 hw1 ht1' hXn hX2.2, gc_XS_cpy hq hw1 ht1' hX2.2, gc_E_cpy hq hq' hne hjD hjS (Or.inl rfl) h7 hwD hwS hp1 hp2 hw0 hw1 ht0' ht1' hel⟩) W15
    have W0 := tk_seg (X := gc_X tw) (TY := gc_TZ) (ro := ro) gc_xsZ0 hxt hXt gk_rok B.exec B.bytes hml hins hF hck hkk (hcall _) (Nat.le_refl _) (Nat.le_refl _) (cut := gc_cutS 12 [q.1, q'.1] (gc_Tc q q' 0 FA)) (by
        intro pc st hc
        unfold gc_cutS at hc
        cases hb : Nat.beq pc 12 with
        | false => rw [hb] at hc; cases hc
        | true =>
          rw [hb] at hc
          have := Nat.eq_of_beq_eq_true hb
          subst this
          exact tk_hitS_ok hH h3 (Option.some.inj hc) W12) hr0 _ (List.mem_singleton.mpr rfl)
    have hlen : (lg_sl av).length ≤ gk_m117.2.1 := by
      rw [rk_lgsl, ← tk_sum_ok hA2]
      show tk_sum [(2, 0, 0, 0), (2, 1, 0, 0)] ≤ gk_m117.2.1
      decide +kernel
    have hl := lv_entry av (n := gk_m117.2.1) hlen
    rw [lg_entry_eq]
    exact W0 vals [yD, yS] s.heap [] _ [] _ hH ⟨⟨[], by simp⟩, ⟨[], by simp⟩, h3, ws, h4, hC, hP, hD0.self, va_S.rf, ⟨tk_un_rf _ _ _ _, hXw⟩, h9⟩ hl (tk_args_ok 0 hA2) trivial
  · cases hr3
end GCQ
end MH26_4
section MH26_5
section GCG
variable {l : Launch} {D : va_G} {xt : tk_XT} {ro : Nat → Nat → Int → Prop} {ads tw : List Nat}
/-- Tales.copyFrom -/
def gc_K60 : tk_K := (117, [(2, 0, 0, 0), (2, 1, 0, 0)], ([], []), [31, 57], [(1, (0, 0, 0, 7), (0, 0, 0, 1))], ([(none, ([], []), [31, 57], [(0, (0, 0, 0, 7), (0, 0, 0, 1))])], [(31, 6), (31, 7), (32, 0), (33, 0), (34, 0), (35, 0), (36, 0), (37, 0)]))
theorem gc_60 (hU : gc_U tw) (hxt : tk_xtok xt) : tk_KS l D gk_cl gk_tbl gk_xw xt gk_MN gk_P gc_TY ro (gc_X tw) ads tw 1 gc_K60 := gc_copyFrom hxt (q := (31, 32, 34)) (q' := (57, 58, 60)) (FA := [(1, (0, 0, 0, 7), (0, 0, 0, 1))]) (FY := [(0, (0, 0, 0, 7), (0, 0, 0, 1))]) (ms := [(31, 6), (31, 7), (32, 0), (33, 0), (34, 0), (35, 0), (36, 0), (37, 0)]) (by decide) (by decide) (by decide) (by decide +kernel) (fun _ _ h => by obtain ⟨x, e, a, b⟩ := h; exact ⟨x, e, a, b⟩) (fun _ _ h => by obtain ⟨x, e, a, b⟩ := h; exact ⟨x, e, a, b⟩) ⟨_, rfl, rfl⟩ ⟨rfl, rfl⟩ (by decide +kernel)
/-- Tales.copyFrom -/
def gc_K316 : tk_K := (117, [(2, 0, 0, 0), (2, 1, 0, 0)], ([], []), [84, 31], [], ([(none, ([], []), [84, 31], [])], [(84, 6), (84, 7), (85, 0), (86, 0), (87, 0), (88, 0), (89, 0), (90, 0)]))
theorem gc_316 (hU : gc_U tw) (hxt : tk_xtok xt) : tk_KS l D gk_cl gk_tbl gk_xw xt gk_MN gk_P gc_TY ro (gc_X tw) ads tw 1 gc_K316 := gc_copyFrom hxt (q := (84, 85, 87)) (q' := (31, 32, 34)) (FA := []) (FY := []) (ms := [(84, 6), (84, 7), (85, 0), (86, 0), (87, 0), (88, 0), (89, 0), (90, 0)]) (by decide) (by decide) (by decide) (by decide +kernel) (fun _ _ h => by obtain ⟨x, e, a, b⟩ := h; exact ⟨x, e, a, b⟩) (fun _ _ h => by obtain ⟨x, e, a, b⟩ := h; exact ⟨x, e, a, b⟩) ⟨_, rfl, rfl⟩ ⟨rfl, rfl⟩ (by decide +kernel)
/-- Tales.copyFrom -/
def gc_K321 : tk_K := (117, [(2, 0, 0, 0), (2, 1, 0, 0)], ([], []), [31, 84], [], ([(none, ([], []), [31, 84], [])], [(31, 6), (31, 7), (32, 0), (33, 0), (34, 0), (35, 0), (36, 0), (37, 0)]))
theorem gc_321 (hU : gc_U tw) (hxt : tk_xtok xt) : tk_KS l D gk_cl gk_tbl gk_xw xt gk_MN gk_P gc_TY ro (gc_X tw) ads tw 1 gc_K321 := gc_copyFrom hxt (q := (31, 32, 34)) (q' := (84, 85, 87)) (FA := []) (FY := []) (ms := [(31, 6), (31, 7), (32, 0), (33, 0), (34, 0), (35, 0), (36, 0), (37, 0)]) (by decide) (by decide) (by decide) (by decide +kernel) (fun _ _ h => by obtain ⟨x, e, a, b⟩ := h; exact ⟨x, e, a, b⟩) (fun _ _ h => by obtain ⟨x, e, a, b⟩ := h; exact ⟨x, e, a, b⟩) ⟨_, rfl, rfl⟩ ⟨rfl, rfl⟩ (by decide +kernel)
end GCG
end MH26_5
section MH26_6
/-! ===== tk: the same run with each number worked out at each step ===== -/
def tk_fN {α : Type} (n : Nat) (k : Nat → α) : α := Nat.casesOn (motive := fun _ => α) n (k Nat.zero) (fun m => k (Nat.succ m))
theorem tk_fN_eq {α : Type} (n : Nat) (k : Nat → α) : tk_fN n k = k n := by cases n <;> rfl
def tk_fZ {α : Type} (z : Int) (k : Int → α) : α := match z with
  | .ofNat n => tk_fN n (fun n => k (.ofNat n))
  | .negSucc n => tk_fN n (fun n => k (.negSucc n))
theorem tk_fZ_eq {α : Type} (z : Int) (k : Int → α) : tk_fZ z k = k z := by
  cases z with
  | ofNat n => exact tk_fN_eq n (fun n => k (.ofNat n))
  | negSucc n => exact tk_fN_eq n (fun n => k (.negSucc n))
def tk_fV {α : Type} (v : tk_V) (k : tk_V → α) : α := tk_fN v.1 (fun a => tk_fN v.2.1 (fun b => tk_fN v.2.2.1 (fun c => tk_fZ v.2.2.2 (fun d => k (a, b, c, d)))))
theorem tk_fV_eq {α : Type} (v : tk_V) (k : tk_V → α) : tk_fV v k = k v := by
  unfold tk_fV
  rw [tk_fN_eq, tk_fN_eq, tk_fN_eq, tk_fZ_eq]
def tk_fL {α β : Type} (f : β → (β → α) → α) : List β → (List β → α) → α
  | [], k => k []
  | x :: r, k => f x (fun y => tk_fL f r (fun s => k (y :: s)))
theorem tk_fL_eq {α β : Type} {f : β → (β → α) → α} (h : ∀ x k, f x k = k x) : ∀ (l : List β) (k : List β → α), tk_fL f l k = k l := by
  intro l
  induction l with
  | nil => intro k; rfl
  | cons x r ih =>
    intro k
    show f x (fun y => tk_fL f r (fun s => k (y :: s))) = k (x :: r)
    rw [h, ih]
def tk_fLo {α : Type} (q : Nat × tk_V) (k : Nat × tk_V → α) : α := tk_fN q.1 (fun a => tk_fV q.2 (fun b => k (a, b)))
theorem tk_fLo_eq {α : Type} (q : Nat × tk_V) (k : Nat × tk_V → α) : tk_fLo q k = k q := by
  unfold tk_fLo
  rw [tk_fN_eq, tk_fV_eq]
def tk_fI {α : Type} (q : tk_I) (k : tk_I → α) : α := tk_fZ q.1 (fun a => tk_fZ q.2 (fun b => k (a, b)))
theorem tk_fI_eq {α : Type} (q : tk_I) (k : tk_I → α) : tk_fI q k = k q := by
  unfold tk_fI
  rw [tk_fZ_eq, tk_fZ_eq]
def tk_fQ {α : Type} (q : tk_Q) (k : tk_Q → α) : α := tk_fN q.1 (fun a => tk_fN q.2.1 (fun b => tk_fZ q.2.2 (fun c => k (a, b, c))))
theorem tk_fQ_eq {α : Type} (q : tk_Q) (k : tk_Q → α) : tk_fQ q k = k q := by
  unfold tk_fQ
  rw [tk_fN_eq, tk_fN_eq, tk_fZ_eq]
def tk_fF {α : Type} (q : Nat × tk_V × tk_V) (k : Nat × tk_V × tk_V → α) : α := tk_fN q.1 (fun a => tk_fV q.2.1 (fun b => tk_fV q.2.2 (fun c => k (a, b, c))))
theorem tk_fF_eq {α : Type} (q : Nat × tk_V × tk_V) (k : Nat × tk_V × tk_V → α) : tk_fF q k = k q := by
  unfold tk_fF
  rw [tk_fN_eq, tk_fV_eq, tk_fV_eq]
def tk_fS {α : Type} (st : tk_S) (k : tk_S → α) : α := tk_fL tk_fLo st.1 (fun a => tk_fL tk_fV st.2.1 (fun b => tk_fL tk_fI st.2.2.1.1 (fun c => tk_fL tk_fQ st.2.2.1.2 (fun d => tk_fL tk_fN st.2.2.2.1 (fun e => tk_fL tk_fF st.2.2.2.2 (fun f => k (a, b, (c, d), e, f)))))))
theorem tk_fS_eq {α : Type} (st : tk_S) (k : tk_S → α) : tk_fS st k = k st := by
  unfold tk_fS
  rw [tk_fL_eq tk_fLo_eq, tk_fL_eq tk_fV_eq, tk_fL_eq tk_fI_eq, tk_fL_eq tk_fQ_eq, tk_fL_eq tk_fN_eq, tk_fL_eq tk_fF_eq]
def tk_loopF (go : Nat × tk_S → Option (tk_X ⊕ List (Nat × tk_S))) (cut : Nat → tk_S → Option Bool) : Nat → List (Nat × tk_S) → List tk_X → Option (List tk_X)
  | 0, _, _ => none
  | _ + 1, [], acc => some acc
  | n + 1, q :: w, acc => tk_fN q.1 (fun pc => tk_fS q.2 (fun st => match cut pc st with
    | some true => tk_loopF go cut n w acc
    | some false => none
    | none => match go (pc, st) with
      | some (.inl x) => tk_loopF go cut n w (x :: acc)
      | some (.inr l) => tk_loopF go cut n (l ++ w) acc
      | none => none))
theorem tk_loopF_eq (go : Nat × tk_S → Option (tk_X ⊕ List (Nat × tk_S))) (cut : Nat → tk_S → Option Bool) : ∀ (n : Nat) (w : List (Nat × tk_S)) (acc : List tk_X), tk_loopF go cut n w acc = tk_loop go cut n w acc := by
  intro n
  induction n with
  | zero => intro w acc; rfl
  | succ n ih =>
    intro w acc
    cases w with
    | nil => rfl
    | cons q w =>
      unfold tk_loopF tk_loop
      rw [tk_fN_eq, tk_fS_eq]
      cases cut q.1 q.2 with
      | some b =>
        cases b with
        | true => exact ih w acc
        | false => rfl
      | none =>
        dsimp only
        cases go q with
        | none => rfl
        | some r =>
          cases r with
          | inl x => exact ih w (x :: acc)
          | inr l => exact ih (l ++ w) acc
def tk_methF (mods : List (Nat × Nat)) (TY : tk_TT) (fty : rk_F) (mci : List Nat) (P : List rk_M2) (fuel : Nat) (call : tk_Ca) : tk_Ca := fun f as w rf fa => match P[f]? with
  | some M => if M.2.1 ≤ 21 ∧ tk_sum as ≤ M.2.1 then (match tk_loopF (tk_go1 (tk_fun mods TY fty mci call M) M.2.2.2.2.1 M.1) (fun _ _ => none) fuel [(0, (tk_args 0 as, [], w, rf, fa))] [] with
    | some xs => some (xs, mods)
    | none => none) else none
  | none => none
theorem tk_methF_eq (mods : List (Nat × Nat)) (TY : tk_TT) (fty : rk_F) (mci : List Nat) (P : List rk_M2) (fuel : Nat) (call : tk_Ca) : tk_methF mods TY fty mci P fuel call = tk_meth mods TY fty mci P fuel call := by
  funext f as w rf fa
  unfold tk_methF tk_meth
  cases P[f]? with
  | none => rfl
  | some M =>
    dsimp only
    rw [tk_loopF_eq]
    rfl
def tk_callF (inl : List Nat) (mods : List (Nat × Nat)) (TY : tk_TT) (fty : rk_F) (mci : List Nat) (P : List rk_M2) (fuel : Nat) (Ks : List tk_K) : Nat → tk_Ca
  | 0 => tk_tbl TY Ks
  | n + 1 => fun f as w rf fa => cond (inl.any (fun g => Nat.beq g f)) (tk_methF mods TY fty mci P fuel (tk_callF inl mods TY fty mci P fuel Ks n) f as w rf fa) (tk_tbl TY Ks f as w rf fa)
theorem tk_callF_eq (inl : List Nat) (mods : List (Nat × Nat)) (TY : tk_TT) (fty : rk_F) (mci : List Nat) (P : List rk_M2) (fuel : Nat) (Ks : List tk_K) : ∀ n : Nat, tk_callF inl mods TY fty mci P fuel Ks n = tk_callI inl mods TY fty mci P fuel Ks n := by
  intro n
  induction n with
  | zero => rfl
  | succ n ih =>
    funext f as w rf fa
    unfold tk_callF tk_callI
    rw [ih, tk_methF_eq]
def tk_run0F (hk : Nat → tk_S → Option (List tk_S)) (TY : tk_TT) (fty : rk_F) (mci : List Nat) (call : tk_Ca) (fuel : Nat) (K : tk_K) (M : rk_M2) : Bool := match tk_loopF (tk_go1H hk (tk_fun K.2.2.2.2.2.2 TY fty mci call M) M.2.2.2.2.1 M.1) (fun _ _ => none) fuel [(0, (tk_args 0 K.2.1, [], K.2.2.1, K.2.2.2.1, K.2.2.2.2.1))] [] with
  | some xs => tk_cov TY (tk_id K.2.2.1 K.2.2.2.1) xs K.2.2.2.2.2.1
  | none => false
def tk_methLF (hk : Nat → tk_S → Option (List tk_S)) (TY : tk_TT) (fty : rk_F) (mci : List Nat) (P : List rk_M2) (call : tk_Ca) (fuel : Nat) (K : tk_K) : Bool := match P[K.1]? with
  | some M => (Nat.ble M.2.1 21 && Nat.ble (tk_sum K.2.1) M.2.1) && tk_run0F hk TY fty mci call fuel K M
  | none => false
theorem tk_methLF_eq {hk : Nat → tk_S → Option (List tk_S)} {TY : tk_TT} {fty : rk_F} {mci : List Nat} {P : List rk_M2} {call : tk_Ca} {fuel : Nat} {K : tk_K} (h : tk_methLF hk TY fty mci P call fuel K = true) : tk_methL hk TY fty mci P call fuel 0 K [] = true := by
  unfold tk_methLF at h
  unfold tk_methL
  split at h
  · next M hM =>
    rw [hM]
    rw [Bool.and_eq_true] at h
    dsimp only
    rw [Bool.and_eq_true]
    refine ⟨h.1, ?_⟩
    have h2 := h.2
    unfold tk_run0F at h2
    rw [tk_loopF_eq] at h2
    show (tk_run0 hk TY fty mci call fuel K [] M && true) = true
    rw [Bool.and_true]
    unfold tk_run0
    exact h2
  · cases h
section TKFC
variable {l : Launch} {D : va_G} {cl : List vw_C} {tbl xw : List Jvm.Cond} {fty : rk_F} {cln : List String} {MN : List rk_N} {mci : List Nat} {P : List rk_M2} {xt : tk_XT} {TY : tk_TT} {ro : Nat → Nat → Int → Prop} {X : va_W → Prop} {ads tw : List Nat}
/-- a contract without loops by its run, the numbers worked out -/
theorem tk_contractF {hk : Nat → tk_S → Option (List tk_S)} (hhk : tk_hkok TY ro X ads tw hk) (hXs : tk_xs TY X ads tw) (hxt : tk_xtok xt) (hok : rk_ok tbl xw cl fty cln MN mci P) (inl : List Nat) (fuel n : Nat) {Ks : List tk_K} {d D' : Nat} (hK : ∀ K ∈ Ks, tk_KS l D cl tbl xw xt MN P TY ro X ads tw d K) {K : tk_K} (h : tk_methLF hk TY fty mci P (tk_callF inl K.2.2.2.2.2.2 TY fty mci P fuel Ks n) fuel K = true) (hD : d + n + 1 = D') : tk_KS l D cl tbl xw xt MN P TY ro X ads tw D' K := by
  rw [tk_callF_eq] at h
  exact tk_contract hhk hXs hxt hok inl fuel n 0 hK (tk_methLF_eq h) hD
end TKFC
end MH26_6
section MH26_7
section GC0
variable {l : Launch} {D : va_G} {xt : tk_XT} {ro : Nat → Nat → Int → Prop} {ads tw : List Nat}
/-- GooseIce.status -/
def gc_K0 : tk_K := (127, [(2, 0, 0, 0)], ([], []), [0], [], ([(some (0, 1, 1, 0), ([(0, 9)], []), [0], [])], []))
def gc_H0 : List tk_Hd := []
theorem gc_0 (hU : gc_U tw) (hxt : tk_xtok xt) : tk_KS l D gk_cl gk_tbl gk_xw xt gk_MN gk_P gc_TY ro (gc_X tw) ads tw 1 gc_K0 := tk_contract (hk := tk_hk0) tk_hk0_ok (gc_xs hU) hxt gk_rok [] 9000 0 0 (Ks := []) (d := 0) (fun _ h => absurd h List.not_mem_nil) (Hs := gc_H0) (by decide +kernel) rfl
/-- GooseIce.top -/
def gc_K1 : tk_K := (128, [(2, 0, 0, 0)], ([], []), [0], [], ([(some (1, 1, 1, 0), ([((-9223372036854775808), 9223372036854775807)], []), [0], [])], []))
def gc_H1 : List tk_Hd := []
theorem gc_1 (hU : gc_U tw) (hxt : tk_xtok xt) : tk_KS l D gk_cl gk_tbl gk_xw xt gk_MN gk_P gc_TY ro (gc_X tw) ads tw 1 gc_K1 := tk_contract (hk := tk_hk0) tk_hk0_ok (gc_xs hU) hxt gk_rok [] 9000 0 0 (Ks := []) (d := 0) (fun _ h => absurd h List.not_mem_nil) (Hs := gc_H1) (by decide +kernel) rfl
/-- GooseIce.bottom -/
def gc_K2 : tk_K := (129, [(2, 0, 0, 0)], ([], []), [0], [], ([(some (1, 1, 1, 0), ([((-9223372036854775808), 9223372036854775807)], []), [0], [])], []))
def gc_H2 : List tk_Hd := []
theorem gc_2 (hU : gc_U tw) (hxt : tk_xtok xt) : tk_KS l D gk_cl gk_tbl gk_xw xt gk_MN gk_P gc_TY ro (gc_X tw) ads tw 1 gc_K2 := tk_contract (hk := tk_hk0) tk_hk0_ok (gc_xs hU) hxt gk_rok [] 9000 0 0 (Ks := []) (d := 0) (fun _ h => absurd h List.not_mem_nil) (Hs := gc_H2) (by decide +kernel) rfl
/-- java/util/Arrays.fill -/
def gc_K3 : tk_K := (387, [(2, 0, 0, 0), (1, 0, 0, 0)], ([], []), [2], [], ([(none, ([], []), [2], [])], [(2, 0)]))
def gc_H3 : List tk_Hd := [(6, [(0, (2, 0, 0, 0)), (1, (1, 0, 0, 0)), (3, (0, 1, 1, 0)), (4, (0, 0, 0, 60))], ([(0, 60)], []), [2], [], [(0, 0, (0, 0, 0, 0)), (1, 60, (0, 1, 1, 0)), (0, 0, (0, 0, 0, 0))])]
theorem gc_3 (hU : gc_U tw) (hxt : tk_xtok xt) : tk_KS l D gk_cl gk_tbl gk_xw xt gk_MN gk_P gc_TY ro (gc_X tw) ads tw 1 gc_K3 := tk_contract (hk := tk_hk0) tk_hk0_ok (gc_xs hU) hxt gk_rok [] 9000 0 3 (Ks := []) (d := 0) (fun _ h => absurd h List.not_mem_nil) (Hs := gc_H3) (by decide +kernel) rfl
/-- GooseIce.tray -/
def gc_K4 : tk_K := (130, [(2, 0, 0, 0), (0, 1, 1, 0), (0, 2, 1, 0), (0, 3, 1, 0)], ([((-2147483648), 2147483647), ((-2147483648), 2147483647), ((-2147483648), 2147483647)], []), [0], [], ([(some (0, 0, 0, 0), ([((-2147483648), 2147483647), ((-2147483648), 2147483647), ((-2147483648), 2147483647)], []), [0], [(0, (0, 0, 0, 0), (0, 0, 0, 1))]), (some (0, 0, 0, 1), ([(0, 3), (0, 3), (0, 60)], []), [0], [(0, (0, 0, 0, 0), (0, 0, 0, 0))])], [(0, 0), (2, 0), (3, 0), (4, 0)]))
def gc_H4 : List tk_Hd := []
theorem gc_4 (hU : gc_U tw) (hxt : tk_xtok xt) : tk_KS l D gk_cl gk_tbl gk_xw xt gk_MN gk_P gc_TY ro (gc_X tw) ads tw 3 gc_K4 := tk_contract (hk := tk_hk0) tk_hk0_ok (gc_xs hU) hxt gk_rok [188, 189, 191] 9000 1 0 (Ks := [gc_K3]) (d := 1) (List.forall_mem_cons.mpr ⟨tk_KS_up (by decide) (gc_3 hU hxt), (fun _ h => absurd h List.not_mem_nil)⟩) (Hs := gc_H4) (by decide +kernel) rfl
/-- GooseIce.write -/
def gc_K5 : tk_K := (131, [(2, 0, 0, 0), (0, 1, 1, 0), (0, 2, 1, 0), (1, 3, 1, 0)], ([((-2147483648), 2147483647), ((-2147483648), 2147483647), ((-9223372036854775808), 9223372036854775807)], []), [0], [], ([(some (0, 0, 0, 0), ([((-2147483648), 2147483647), ((-2147483648), 2147483647), ((-9223372036854775808), 9223372036854775807), (1, 3)], []), [0], [(0, (0, 0, 0, 0), (0, 4, 1, 0))]), (some (0, 0, 0, 1), ([(0, 3), (0, 59), ((-9223372036854775808), 9223372036854775807)], []), [0], [(0, (0, 0, 0, 0), (0, 0, 0, 0))])], [(0, 0), (2, 0)]))
def gc_H5 : List tk_Hd := []
theorem gc_5 (hU : gc_U tw) (hxt : tk_xtok xt) : tk_KS l D gk_cl gk_tbl gk_xw xt gk_MN gk_P gc_TY ro (gc_X tw) ads tw 3 gc_K5 := tk_contract (hk := tk_hk0) tk_hk0_ok (gc_xs hU) hxt gk_rok [188, 189, 191, 192, 193] 9000 2 0 (Ks := []) (d := 0) (fun _ h => absurd h List.not_mem_nil) (Hs := gc_H5) (by decide +kernel) rfl
/-- GooseIce.read -/
def gc_K6 : tk_K := (132, [(2, 0, 0, 0), (0, 1, 1, 0), (0, 2, 1, 0)], ([((-2147483648), 2147483647), ((-2147483648), 2147483647)], []), [0], [], ([(some (1, 3, 1, 0), ([((-2147483648), 2147483647), ((-2147483648), 2147483647), ((-9223372036854775808), 9223372036854775807), (0, 3)], []), [0], [(0, (0, 0, 0, 0), (0, 4, 1, 0))])], [(0, 0)]))
def gc_H6 : List tk_Hd := []
theorem gc_6 (hU : gc_U tw) (hxt : tk_xtok xt) : tk_KS l D gk_cl gk_tbl gk_xw xt gk_MN gk_P gc_TY ro (gc_X tw) ads tw 3 gc_K6 := tk_contract (hk := tk_hk0) tk_hk0_ok (gc_xs hU) hxt gk_rok [187, 191, 192] 9000 2 0 (Ks := []) (d := 0) (fun _ h => absurd h List.not_mem_nil) (Hs := gc_H6) (by decide +kernel) rfl
end GC0
end MH26_7
