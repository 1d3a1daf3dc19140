/-! ===== the class: Tales.copyFrom: what holds between its steps ===== -/
/-- rows of field k are like: of TALES jD (kind q) and jS (kind q') -/
def gc_E (tw : List Nat) (q q' : Nat × Nat × Nat) (jD jS k : Nat) (ws : va_W) : Prop := ∀ (yD yS yo yo' jo jo' i : Nat) (eD eS eo eo' : va_E), ws[jD]? = some (yD, eD) → ws[jS]? = some (yS, eS) → tk_pos eD k = some (.ref yo) → tk_pos eS k = some (.ref yo') → ws[jo]? = some (yo, eo) → ws[jo']? = some (yo', eo') → tw[jo]? = some (if k = 0 then q.2.1 else q.2.2) → tw[jo']? = some (if k = 0 then q'.2.1 else q'.2.2) → tk_pos eo i = tk_pos eo' i
def gc_Z1 (tw : List Nat) (q q' : Nat × Nat × Nat) (jD jS : Nat) (ws : va_W) : Prop := gc_XA (fun j => ¬ j = jD) tw ws ∧ gc_XS tw ws ∧ gc_E tw q q' jD jS 0 ws
def gc_Z2 (tw : List Nat) (q q' : Nat × Nat × Nat) (jD jS : Nat) (ws : va_W) : Prop := gc_Z1 tw q q' jD jS ws ∧ gc_E tw q q' jD jS 2 ws
def gc_TZ : tk_TT := (gc_ty, gc_reg, gc_rgn, gc_FX, fun _ _ _ _ _ => false)
section GCP
variable {ads tw : List Nat} {q q' : Nat × Nat × Nat} {jD jS : Nat}
theorem gc_E_st (hq : q ∈ gc_rl) (hq' : q' ∈ gc_rl) (hD : tw[jD]? = some q.1) (hS : tw[jS]? = some q'.1) {k : Nat} (hk : k = 0 ∨ k = 2) (m : List (Nat × Nat)) (ws ws' : va_W) (hm : ws'.map Prod.fst = ws.map Prod.fst) (hF : ∀ z ∈ m, ¬ z ∈ gc_FX) (hun : tk_un gc_TZ m tw ws ws') (hX : gc_E tw q q' jD jS k ws) : gc_E tw q q' jD jS k ws' := by
  intro yD yS yo yo' jo jo' i eD eS eo eo' hwD hwS pD pS hwo hwo' hto hto'
  obtain ⟨⟨f0, f2, f6, fo, fa⟩, r1, r2, r3⟩ := gc_rl_ok _ hq
  obtain ⟨⟨f0', f2', f6', fo', fa'⟩, r1', r2', r3'⟩ := gc_rl_ok _ hq'
  obtain ⟨aD, hD0⟩ := gc_map_back hm hwD
  obtain ⟨aS, hS0⟩ := gc_map_back hm hwS
  obtain ⟨ao, ho0⟩ := gc_map_back hm hwo
  obtain ⟨ao', ho0'⟩ := gc_map_back hm hwo'
  obtain ⟨b1, g1, g1', -⟩ := hun _ _ _ hD0
  obtain ⟨b2, g2, g2', -⟩ := hun _ _ _ hS0
  obtain ⟨b3, g3, g3', -⟩ := hun _ _ _ ho0
  obtain ⟨b4, g4, g4', -⟩ := hun _ _ _ ho0'
  rw [hwD] at g1
  rw [hwS] at g2
  rw [hwo] at g3
  rw [hwo'] at g4
  cases g1
  cases g2
  cases g3
  cases g4
  have kk : ∀ (t : Nat) (i : Nat), gc_rgn t = some gc_id → tk_rg gc_TZ t i = i := fun t i e => by
    show (match gc_rgn t with
      | none => 0
      | some g => g i) = i
    rw [e]
    rfl
  have k0 : ∀ (t : Nat) (i : Nat), gc_rgn t = none → tk_rg gc_TZ t i = 0 := fun t i e => by
    show (match gc_rgn t with
      | none => 0
      | some g => g i) = 0
    rw [e]
  have hn : ∀ z, z ∈ gc_FX → ¬ z ∈ m := fun z hz hzm => hF z hzm hz
  rw [g3' i _ hto (by
    rcases hk with rfl | rfl
    · rw [if_pos rfl, k0 _ _ r2]; exact hn _ fo
    · rw [if_neg (by decide), k0 _ _ r3]; exact hn _ fa), g4' i _ hto' (by
    rcases hk with rfl | rfl
    · rw [if_pos rfl, k0 _ _ r2']; exact hn _ fo'
    · rw [if_neg (by decide), k0 _ _ r3']; exact hn _ fa')]
  refine hX yD yS yo yo' jo jo' i aD aS ao ao' hD0 hS0 ?_ ?_ ho0 ho0' hto hto'
  · rw [← g1' k _ hD (by
      rw [kk _ _ r1]
      rcases hk with rfl | rfl
      · exact hn _ f0
      · exact hn _ f2)]
    exact pD
  · rw [← g2' k _ hS (by
      rw [kk _ _ r1']
      rcases hk with rfl | rfl
      · exact hn _ f0'
      · exact hn _ f2')]
    exact pS
theorem gc_xsZ1 (hq : q ∈ gc_rl) (hq' : q' ∈ gc_rl) (hD : tw[jD]? = some q.1) (hS : tw[jS]? = some q'.1) : tk_xs gc_TZ (gc_Z1 tw q q' jD jS) ads tw :=
  ⟨fun m ws ws' hm hF hun hX => ⟨gc_xsA m ws ws' hm hF hun hX.1, gc_xsS m ws ws' hm hF hun hX.2.1, gc_E_st hq hq' hD hS (Or.inl rfl) m ws ws' hm hF hun hX.2.2⟩, fun _ _ _ _ _ _ _ _ _ _ _ _ _ _ _ h => nomatch h⟩
theorem gc_xsZ2 (hq : q ∈ gc_rl) (hq' : q' ∈ gc_rl) (hD : tw[jD]? = some q.1) (hS : tw[jS]? = some q'.1) : tk_xs gc_TZ (gc_Z2 tw q q' jD jS) ads tw :=
  ⟨fun m ws ws' hm hF hun hX => ⟨(gc_xsZ1 (ads := ads) hq hq' hD hS).1 m ws ws' hm hF hun hX.1, gc_E_st hq hq' hD hS (Or.inr rfl) m ws ws' hm hF hun hX.2⟩, fun _ _ _ _ _ _ _ _ _ _ _ _ _ _ _ h => nomatch h⟩
theorem gc_xsZ0 : tk_xs gc_TZ (gc_X tw) ads tw := ⟨fun m ws ws' hm hF hun hX => gc_xs1 m ws ws' hm hF hun hX, fun _ _ _ _ _ _ _ _ _ _ _ _ _ _ _ h => nomatch h⟩
/-- cells at one address are one -/
theorem gc_one {A : Nat → Prop} {ws : va_W} (h7 : va_D A ws) {i j y : Nat} {e e' : va_E} (h1 : ws[i]? = some (y, e)) (h2 : ws[j]? = some (y, e')) : i = j := h7.1 i j _ _ h1 h2 rfl
/-- an array of D's is overwritten by S's: others' rows stay good -/
theorem gc_XA_cpy (hq : q ∈ gc_rl) (hD : tw[jD]? = some q.1) {A : Nat → Prop} {ws : va_W} {k q1 x1 yD : Nat} {e1 e1' eD : va_E} (hk : k = 0 ∨ k = 2) (h7 : va_D A ws) (hwD : ws[jD]? = some (yD, eD)) (pD : tk_pos eD k = some (.ref x1)) (hw1 : ws[q1]? = some (x1, e1)) (ht1 : tw[q1]? = some (if k = 0 then q.2.1 else q.2.2)) (hX : gc_XA (fun j => ¬ j = jD) tw ws) (hXS : gc_XS tw ws) : gc_XA (fun j => ¬ j = jD) tw (ws.set q1 (x1, e1')) := by
  intro t to ta j jo ja y yo ya r e eo ea n x v hqt hP hj hjo hja hw hwo hwa p0 p2 p6 hr px pv hx
  obtain ⟨d1, d2, d3, d4, d5⟩ := gc_rl_ne _ hqt _ hq
  obtain ⟨-, -, d6, -, -⟩ := gc_rl_ne _ hq _ hqt
  have nj : ¬ q1 = j := by
    intro z
    rw [z, hj] at ht1
    have := Option.some.inj ht1
    rcases hk with rfl | rfl
    · rw [if_pos rfl] at this; exact d1 this
    · rw [if_neg (by decide)] at this; exact d2 this
  rw [List.getElem?_set_ne nj] at hw
  have hown : ∀ z : Nat, (z = jo ∨ z = ja) → ¬ q1 = z := by
    rintro z hz rfl
    have et : (t, to, ta) = q := by
      rcases hz with rfl | rfl
      · rw [hjo] at ht1
        have := Option.some.inj ht1
        rcases hk with rfl | rfl
        · rw [if_pos rfl] at this; exact d4 this
        · rw [if_neg (by decide)] at this; exact absurd this d3
      · rw [hja] at ht1
        have := Option.some.inj ht1
        rcases hk with rfl | rfl
        · rw [if_pos rfl] at this; exact absurd this.symm d6
        · rw [if_neg (by decide)] at this; exact d5 this
    subst et
    have hsame : tk_pos e k = some (.ref x1) := by
      rcases hz with rfl | rfl
      · rw [List.getElem?_set_self (List.getElem?_eq_some_iff.mp hw1).1] at hwo
        cases hwo
        rw [hjo] at ht1
        have := Option.some.inj ht1
        rcases hk with rfl | rfl
        · exact p0
        · rw [if_neg (by decide)] at this; exact absurd this d3
      · rw [List.getElem?_set_self (List.getElem?_eq_some_iff.mp hw1).1] at hwa
        cases hwa
        rw [hja] at ht1
        have := Option.some.inj ht1
        rcases hk with rfl | rfl
        · rw [if_pos rfl] at this; exact absurd this.symm d6
        · exact p2
    exact hP (hXS t to ta j jD y yD x1 k e eD hqt hk hj hD hw hwD hsame pD)
  rw [List.getElem?_set_ne (hown jo (Or.inl rfl))] at hwo
  rw [List.getElem?_set_ne (hown ja (Or.inr rfl))] at hwa
  exact hX t to ta j jo ja y yo ya r e eo ea n x v hqt hP hj hjo hja hw hwo hwa p0 p2 p6 hr px pv hx
theorem gc_XS_cpy (hq : q ∈ gc_rl) {ws : va_W} {k q1 x1 : Nat} {e1 e1' : va_E} (hw1 : ws[q1]? = some (x1, e1)) (ht1 : tw[q1]? = some (if k = 0 then q.2.1 else q.2.2)) (hXS : gc_XS tw ws) : gc_XS tw (ws.set q1 (x1, e1')) :=
  gc_XS_set hw1 (fun z hz ht => by
    exfalso
    obtain ⟨d1, d2, -⟩ := gc_rl_ne _ hz _ hq
    rw [ht1] at ht
    have := Option.some.inj ht
    split at this
    · exact d1 this.symm
    · exact d2 this.symm) hXS
/-- the rows that were copied are like -/
theorem gc_E_cpy (hq : q ∈ gc_rl) (hq' : q' ∈ gc_rl) (hne : ¬ q = q') (hD : tw[jD]? = some q.1) (hS : tw[jS]? = some q'.1) {A : Nat → Prop} {ws : va_W} {k q0 q1 x0 x1 yD yS : Nat} {e0 e1 e1' eD eS : va_E} (hk : k = 0 ∨ k = 2) (h7 : va_D A ws) (hwD : ws[jD]? = some (yD, eD)) (hwS : ws[jS]? = some (yS, eS)) (pD : tk_pos eD k = some (.ref x1)) (pS : tk_pos eS k = some (.ref x0)) (hw0 : ws[q0]? = some (x0, e0)) (hw1 : ws[q1]? = some (x1, e1)) (ht0 : tw[q0]? = some (if k = 0 then q'.2.1 else q'.2.2)) (ht1 : tw[q1]? = some (if k = 0 then q.2.1 else q.2.2)) (hel : ∀ i, tk_pos e1' i = tk_pos e0 i) : gc_E tw q q' jD jS k (ws.set q1 (x1, e1')) := by
  intro yD2 yS2 yo yo' jo jo' i eD2 eS2 eo eo' hwD2 hwS2 pD2 pS2 hwo hwo' hto hto'
  obtain ⟨d1, d2, d3, d4, d5⟩ := gc_rl_ne _ hq _ hq
  obtain ⟨c1, c2, c3, c4, c5⟩ := gc_rl_ne _ hq' _ hq
  have nD : ¬ q1 = jD := by
    intro z
    rw [z, hD] at ht1
    have := Option.some.inj ht1
    split at this
    · exact d1 this
    · exact d2 this
  have nS : ¬ q1 = jS := by
    intro z
    rw [z, hS] at ht1
    have := Option.some.inj ht1
    split at this
    · exact c1 this
    · exact c2 this
  rw [List.getElem?_set_ne nD, hwD] at hwD2
  cases hwD2
  rw [List.getElem?_set_ne nS, hwS] at hwS2
  cases hwS2
  rw [pD] at pD2
  cases pD2
  rw [pS] at pS2
  cases pS2
  have n01 : ¬ q1 = q0 := by
    intro z
    rw [z, ht0] at ht1
    have := Option.some.inj ht1
    rcases hk with rfl | rfl
    · rw [if_pos rfl, if_pos rfl] at this; exact hne (c4 this).symm
    · rw [if_neg (by decide), if_neg (by decide)] at this; exact hne (c5 this).symm
  have hl1 : q1 < ws.length := (List.getElem?_eq_some_iff.mp hw1).1
  have e1j : jo = q1 := by
    by_cases z : q1 = jo
    · exact z.symm
    · rw [List.getElem?_set_ne z] at hwo
      exact gc_one h7 hwo hw1
  subst e1j
  rw [List.getElem?_set_self hl1] at hwo
  cases hwo
  have e0j : jo' = q0 := by
    by_cases z : jo = jo'
    · exfalso
      rw [← z] at hto'
      rw [ht1] at hto'
      have := Option.some.inj hto'
      rcases hk with rfl | rfl
      · rw [if_pos rfl, if_pos rfl] at this; exact hne (c4 this.symm).symm
      · rw [if_neg (by decide), if_neg (by decide)] at this; exact hne (c5 this.symm).symm
    · rw [List.getElem?_set_ne z] at hwo'
      exact gc_one h7 hwo' hw0
  subst e0j
  rw [List.getElem?_set_ne n01, hw0] at hwo'
  cases hwo'
  exact hel i
/-- rows of another field stay like -/
theorem gc_E_oth (hq : q ∈ gc_rl) (hq' : q' ∈ gc_rl) (hD : tw[jD]? = some q.1) (hS : tw[jS]? = some q'.1) {ws : va_W} {q1 x1 : Nat} {e1 e1' : va_E} (hw1 : ws[q1]? = some (x1, e1)) (ht1 : tw[q1]? = some q.2.2) (hX : gc_E tw q q' jD jS 0 ws) : gc_E tw q q' jD jS 0 (ws.set q1 (x1, e1')) := by
  intro yD2 yS2 yo yo' jo jo' i eD2 eS2 eo eo' hwD2 hwS2 pD2 pS2 hwo hwo' hto hto'
  obtain ⟨d1, d2, d3, -, -⟩ := gc_rl_ne _ hq _ hq
  obtain ⟨c1, c2, c3, -, -⟩ := gc_rl_ne _ hq' _ hq
  have nn : ∀ (j t : Nat), tw[j]? = some t → ¬ t = q.2.2 → ¬ q1 = j := by
    intro j t hj ht z
    rw [z, hj] at ht1
    exact ht (Option.some.inj ht1)
  rw [if_pos rfl] at hto hto'
  rw [List.getElem?_set_ne (nn _ _ hD d2)] at hwD2
  rw [List.getElem?_set_ne (nn _ _ hS c2)] at hwS2
  rw [List.getElem?_set_ne (nn _ _ hto d3)] at hwo
  rw [List.getElem?_set_ne (nn _ _ hto' c3)] at hwo'
  exact hX yD2 yS2 yo yo' jo jo' i eD2 eS2 eo eo' hwD2 hwS2 pD2 pS2 hwo hwo' (by rw [if_pos rfl]; exact hto) (by rw [if_pos rfl]; exact hto')
/-- the count is copied: all is well again -/
theorem gc_cnt (hq : q ∈ gc_rl) (hq' : q' ∈ gc_rl) (hne : ¬ q = q') (hD : tw[jD]? = some q.1) (hS : tw[jS]? = some q'.1) {ro : Nat → Nat → Int → Prop} {A : Nat → Prop} {ws : va_W} {yD yS : Nat} {eD eD' eS : va_E} {u : Value} (h4 : ws.map Prod.fst = ads) (h7 : va_D A ws) (hob : tk_ob gc_TZ ro ads tw ws) (hwD : ws[jD]? = some (yD, eD)) (hwS : ws[jS]? = some (yS, eS)) (pS : tk_pos eS 6 = some u) (pu : tk_pos eD' 6 = some u) (hpd : ∀ i, ¬ i = 6 → tk_pos eD' i = tk_pos eD i) (hX : gc_Z2 tw q q' jD jS ws) : gc_X tw (ws.set jD (yD, eD')) := by
  obtain ⟨⟨hXA, hXS, hE0⟩, hE2⟩ := hX
  refine ⟨?_, gc_XS_set hwD (fun _ _ _ => ⟨hpd 0 (by decide), hpd 2 (by decide)⟩) hXS⟩
  intro t to ta j jo ja y yo ya r e eo ea n x v hqt _ hj hjo hja hw hwo hwa p0 p2 p6 hr px pv hx
  obtain ⟨d1, d2, d3, d4, d5⟩ := gc_rl_ne _ hq _ hqt
  have njo : ¬ jD = jo := by
    intro z; rw [← z, hD] at hjo; exact d1 (Option.some.inj hjo)
  have nja : ¬ jD = ja := by
    intro z; rw [← z, hD] at hja; exact d2 (Option.some.inj hja)
  rw [List.getElem?_set_ne njo] at hwo
  rw [List.getElem?_set_ne nja] at hwa
  by_cases ej : jD = j
  · subst ej
    rw [List.getElem?_set_self (List.getElem?_eq_some_iff.mp hwD).1] at hw
    cases hw
    have et : t = q.1 := by rw [hD] at hj; exact (Option.some.inj hj).symm
    have eq1 : (t, to, ta) = q := by
      have key : ∀ z ∈ gc_rl, ∀ z' ∈ gc_rl, z.1 = z'.1 → z = z' := by decide +kernel
      exact key _ hqt _ hq et
    subst eq1
    rw [pu] at p6
    cases p6
    rw [hpd 0 (by decide)] at p0
    rw [hpd 2 (by decide)] at p2
    -- S's rows
    have hty : tk_ty ads tw q'.1 yS := by
      refine ⟨jS, ?_, hS⟩
      rw [← h4, List.getElem?_map, hwS]
      rfl
    have hcell : ∀ k t', (k = 0 ∨ k = 2) → t' = (if k = 0 then q'.2.1 else q'.2.2) → ∃ (yo' jo' : Nat) (eo' : va_E), tk_pos eS k = some (.ref yo') ∧ ws[jo']? = some (yo', eo') ∧ tw[jo']? = some t' := by
      intro k t' hk ht'
      obtain ⟨j2, e2, hw2, hm⟩ := hob _ _ hty
      have := gc_one h7 hw2 hwS
      subst this
      rw [hw2] at hwS
      cases hwS
      have hT : ∃ fs : List tk_F, gc_ty[q'.1]? = some (.inl (9, fs)) ∧ fs[0]? = some (2, (q'.2.1 : Int), 0) ∧ fs[2]? = some (2, (q'.2.2 : Int), 0) := by
        have hq2 := hq'
        simp only [gc_rl, List.mem_cons, List.not_mem_nil, or_false] at hq2
        rcases hq2 with rfl | rfl | rfl
        all_goals exact ⟨_, rfl, rfl, rfl⟩
      obtain ⟨fs, hT, hf0, hf2⟩ := hT
      rw [show gc_TZ.1[q'.1]? = some (.inl (9, fs)) from hT] at hm
      obtain ⟨vs, rfl, hvl, hvs⟩ := hm
      have hfk : fs[k]? = some (2, (t' : Int), 0) := by
        rcases hk with rfl | rfl
        · rw [ht', if_pos rfl]; exact hf0
        · rw [ht', if_neg (by decide)]; exact hf2
      have hkl : k < vs.length := by rw [hvl]; exact (List.getElem?_eq_some_iff.mp hfk).1
      have hv : vs[k]? = some vs[k] := List.getElem?_eq_getElem hkl
      have hfv := hvs k _ _ hfk hv
      unfold tk_fv at hfv
      obtain ⟨yo', ey, hty'⟩ := hfv
      have hty' : tk_ty ads tw t' yo' := by simpa using hty'
      obtain ⟨jo', g1, g2⟩ := hty'
      rw [← h4, List.getElem?_map] at g1
      obtain ⟨z, hz, ez⟩ := Option.map_eq_some_iff.mp g1
      exact ⟨yo', jo', z.2, hv.trans (by rw [ey]), by rw [hz, ← ez], g2⟩
    obtain ⟨yo', jo', eo', a1, a2, a3⟩ := hcell 0 q'.2.1 (Or.inl rfl) (by rw [if_pos rfl])
    obtain ⟨ya', ja', ea', b1, b2, b3⟩ := hcell 2 q'.2.2 (Or.inr rfl) (by rw [if_neg (by decide)])
    have hx0 := hE0 _ yS yo yo' jo jo' r eD eS eo eo' hwD hwS p0 a1 hwo a2 (by rw [if_pos rfl]; exact hjo) (by rw [if_pos rfl]; exact a3)
    have hx2 := hE2 _ yS ya ya' ja ja' r eD eS ea ea' hwD hwS p2 b1 hwa b2 (by rw [if_neg (by decide)]; exact hja) (by rw [if_neg (by decide)]; exact b3)
    rw [hx0] at px
    rw [hx2] at pv
    have nSD : ¬ jS = jD := by
      intro z
      rw [z, hD] at hS
      have key : ∀ z ∈ gc_rl, ∀ z' ∈ gc_rl, z.1 = z'.1 → z = z' := by decide +kernel
      exact hne (key _ hq _ hq' (Option.some.inj hS))
    exact hXA q'.1 q'.2.1 q'.2.2 jS jo' ja' yS yo' ya' r eS eo' ea' n x v hq' nSD hS a3 b3 hwS a2 b2 a1 b1 pS hr px pv hx
  · rw [List.getElem?_set_ne ej] at hw
    exact hXA t to ta j jo ja y yo ya r e eo ea n x v hqt (fun z => ej z.symm) hj hjo hja hw hwo hwa p0 p2 p6 hr px pv hx
end GCP
