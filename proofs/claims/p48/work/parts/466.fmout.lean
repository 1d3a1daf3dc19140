/-! ===== fx and tk: behind a call, the world again; contracts of the model by fx ===== -/
theorem rk_A2_of {α β : Type} {R : α → β → Prop} : ∀ {l : List α} {l' : List β}, l.length = l'.length → (∀ (i : Nat) (a : α) (b : β), l[i]? = some a → l'[i]? = some b → R a b) → rk_A2 R l l' := by
  intro l
  induction l with
  | nil =>
    intro l' hl _
    cases l' with
    | nil => trivial
    | cons b r => cases hl
  | cons a r ih =>
    intro l' hl h
    cases l' with
    | nil => cases hl
    | cons b r' => exact ⟨h 0 a b rfl rfl, ih (by simpa using hl) (fun i x y hx hy => h (i + 1) x y hx hy)⟩
def fx_put : va_W → List Nat → va_W → va_W
  | ws, j :: σ, w :: W => (fx_put ws σ W).set j w
  | ws, _, _ => ws
theorem fx_put_len (ws : va_W) : ∀ (σ : List Nat) (W : va_W), (fx_put ws σ W).length = ws.length := by
  intro σ
  induction σ with
  | nil => intro W; cases W <;> rfl
  | cons j σ ih =>
    intro W
    cases W with
    | nil => rfl
    | cons w W =>
      show ((fx_put ws σ W).set j w).length = _
      rw [List.length_set, ih]
theorem fx_put_out (ws : va_W) {i : Nat} : ∀ (σ : List Nat) (W : va_W), (∀ t : Nat, ¬ σ[t]? = some i) → (fx_put ws σ W)[i]? = ws[i]? := by
  intro σ
  induction σ with
  | nil => intro W _; cases W <;> rfl
  | cons j σ ih =>
    intro W h
    cases W with
    | nil => rfl
    | cons w W =>
      show ((fx_put ws σ W).set j w)[i]? = _
      have hne : ¬ j = i := fun e => h 0 (by rw [e]; rfl)
      rw [List.getElem?_set_ne hne]
      exact ih W (fun t => h (t + 1))
theorem fx_put_in (ws : va_W) {i : Nat} (hi : i < ws.length) {w : Nat × va_E} : ∀ (σ : List Nat) (W : va_W) (t : Nat), (∀ (t1 t2 j : Nat), σ[t1]? = some j → σ[t2]? = some j → t1 = t2) → σ[t]? = some i → W[t]? = some w → (fx_put ws σ W)[i]? = some w := by
  intro σ
  induction σ with
  | nil => intro W t _ h; cases h
  | cons j σ ih =>
    intro W t hinj h hw
    cases W with
    | nil => cases hw
    | cons w0 W =>
      show ((fx_put ws σ W).set j w0)[i]? = _
      cases t with
      | zero =>
        cases h
        cases hw
        exact List.getElem?_set_self (by rw [fx_put_len]; exact hi)
      | succ t =>
        have hne : ¬ j = i := fun e => by
          have := hinj 0 (t + 1) i (by rw [← e]; rfl) h
          omega
        rw [List.getElem?_set_ne hne]
        exact ih W t (fun t1 t2 k h1 h2 => by have := hinj (t1 + 1) (t2 + 1) k h1 h2; omega) h hw
theorem fm_at_inj {s : State} {tw : List Nat} {ws : va_W} {h0 : Nat} {ps : fx_P} {σ : List Nat} {mem : fx_M} (h : fm_at s tw ws h0 ps σ mem) : ∀ (t1 t2 j : Nat), σ[t1]? = some j → σ[t2]? = some j → t1 = t2 := fun t1 t2 j h1 h2 => by
  have e1 := (h.2.2.2.2 t1 j h1).1
  have e2 := (h.2.2.2.2 t2 j h2).1
  rw [e1] at e2
  exact Option.some.inj e2
/-- a place of the new world -/
theorem fm_put {s s' : State} {tw : List Nat} {ws : va_W} {h0 : Nat} {ps : fx_P} {σ : List Nat} {mem mem' : fx_M} (h : fm_at s tw ws h0 ps σ mem) (hO : fx_ok s' ps mem') : (∀ i : Nat, (∀ t : Nat, ¬ σ[t]? = some i) → (fx_put ws σ (fx_w ps mem'))[i]? = ws[i]?) ∧ ∀ (t j : Nat), σ[t]? = some j → tw[j]? = some t ∧ ∃ (q : Nat × ClassId) (e e' : fx_E), ps[t]? = some q ∧ mem[t]? = some e ∧ mem'[t]? = some e' ∧ ws[j]? = some (q.1, fx_c ps q.2 e) ∧ (fx_put ws σ (fx_w ps mem'))[j]? = some (q.1, fx_c ps q.2 e') := by
  refine ⟨fun i hi => fx_put_out ws σ _ hi, fun t j hj => ?_⟩
  obtain ⟨h1, q, e, g1, g2, g3⟩ := h.2.2.2.2 t j hj
  have hl : t < mem'.length := by
    have h7 := hO.1
    have h8 := h.2.2.2.1.1
    have h9 := (List.getElem?_eq_some_iff.mp g2).1
    omega
  have he : mem'[t]? = some mem'[t] := List.getElem?_eq_getElem hl
  refine ⟨h1, q, e, mem'[t], g1, g2, he, g3, fx_put_in ws (List.getElem?_eq_some_iff.mp g3).1 σ _ t (fm_at_inj h) hj ?_⟩
  unfold fx_w
  rw [List.getElem?_zipWith, g1, he]
theorem fm_in_or {σ : List Nat} (i : Nat) : (∃ t : Nat, σ[t]? = some i) ∨ ∀ t : Nat, ¬ σ[t]? = some i := by
  by_cases h : ∃ t : Nat, σ[t]? = some i
  · exact Or.inl h
  · exact Or.inr (fun t ht => h ⟨t, ht⟩)
/-- what a changed cell must be -/
def fm_chg (TY : tk_TT) (ro : Nat → Nat → Int → Prop) (ads tw : List Nat) (mods : List (Nat × Nat)) (ps : fx_P) (t : Nat) (e e' : fx_E) : Prop := e' = e ∨ (∃ (n : Nat) (f f' : Nat → Int32) (fl : tk_F), e = .inr (.int, n, .inl f) ∧ e' = .inr (.int, n, .inl f') ∧ TY.1[t]? = some (.inr (.int, n, fl)) ∧ (∀ i : Nat, i < n → tk_fv ro TY.2.1 ads tw t i fl (.int (f' i))) ∧ (∀ i : Nat, ¬ (t, tk_rg TY t i) ∈ mods → f' i = f i) ∧ ∃ i : Nat, (t, tk_rg TY t i) ∈ mods) ∨ (∃ (ci : Nat) (vs vs' : List Value) (fs : List tk_F), e = .inl (ci, vs) ∧ e' = .inl (ci, vs') ∧ TY.1[t]? = some (.inl (ci, fs)) ∧ vs'.length = fs.length ∧ (∀ (i : Nat) (f : tk_F) (v : Value), fs[i]? = some f → vs'[i]? = some v → ¬ f.1 = 2 → tk_fv ro TY.2.1 ads tw t i f (fx_v ps v)) ∧ (∀ (i : Nat) (f : tk_F), fs[i]? = some f → f.1 = 2 → vs'[i]? = vs[i]?) ∧ (∀ i : Nat, ¬ (t, tk_rg TY t i) ∈ mods → vs'[i]? = vs[i]?) ∧ ∃ i : Nat, (t, tk_rg TY t i) ∈ mods)
section FMO
variable {l : Launch} {D : va_G} {tbl xw : List Jvm.Cond} {xt : tk_XT} {MN : List rk_N} {P : List rk_M2} {TY : tk_TT} {ro : Nat → Nat → Int → Prop} {X1 X2 : va_W → Prop} {ads tw : List Nat}
def tk_KS2 (l : Launch) (D : va_G) (cl : List vw_C) (tbl xw : List Jvm.Cond) (xt : tk_XT) (MN : List rk_N) (P : List rk_M2) (TY : tk_TT) (ro : Nat → Nat → Int → Prop) (X1 X2 : va_W → Prop) (ads tw : List Nat) (d : Nat) (K : tk_K) : Prop := ∀ (q : rk_N), MN[K.1]? = some q → ∃ M, P[K.1]? = some M ∧ M.2.1 ≤ 21 ∧ ∀ (vals : List Int) (rads : List Nat) (ws : va_W) (av : List Value) (sz : Nat), tk_H K.2.2.1 vals → rk_A2 (fun t y => tk_ty ads tw t y) K.2.2.2.1 rads → rk_A2 (tk_g vals rads) K.2.1 av → ws.map Prod.fst = ads → (∀ z ∈ K.2.2.2.2.1, tk_fk vals rads ws z) → tk_ob TY ro ads tw ws → Met l q.2.1 (Jvm.Cond.code q.2.1 q.2.2 M.2.1 M.2.2.2.2.1 :: tbl) { frames := d, cells := 0, slots := 0, locals := 40 * d } (tk_Pre D cl xw xt TY ro X1 ads tw ws sz av) (tk_Post D cl TY ro X2 ads tw K.2.2.2.2.2 vals rads ws (va_A ws sz)) 0 0 (va_A ws sz)
theorem tk_KS2_1 {cl : List vw_C} {X : va_W → Prop} {d : Nat} {K : tk_K} (h : tk_KS2 l D cl tbl xw xt MN P TY ro X X ads tw d K) : tk_KS l D cl tbl xw xt MN P TY ro X ads tw d K := h
set_option maxHeartbeats 8000000 in
theorem fm_KS2 (hst : ∀ (Ad : Nat → Prop) (U : State) (H : Heap), xt Ad U H → ∃ pl v tx, sk_X pl v Ad U H ∧ vk_R "GooseIceModel" 189 tx pl U) (hT : fm_Ty TY) {k f : Nat} {rs : List tk_V} {w : tk_W} {fa : tk_FA} {ys : List tk_X} {mods : List (Nat × Nat)} (hrs : rs.all (fun v => Nat.beq v.1 0) = true)
    (hex : ∀ (U : State) (vals : List Int) (rest : List Value) (ws : va_W) (h0 : Nat) (ps : fx_P) (σ : List Nat) (g : Nat → Int32) (tp bt : Int64) (a : Nat → Nat → Int32) (b : Nat → Nat → Int64), tk_H w vals → rk_A2 (tk_g vals [h0]) rs rest → rk_A2 (fun t (q : Nat × va_E) => tk_cl TY ro ads tw U t q.2) tw ws → ws.map Prod.fst = ads → va_D (fun _ => True) ws → (∀ z ∈ fa, tk_fk vals [h0] ws z) → fm_at U tw ws h0 ps σ (fm g tp bt a b) → X1 ws →
      ∃ (r : Option Value) (mem' : fx_M), fr_T k f (.ref 0 :: rest) (fm g tp bt a b) r mem' ∧ (∀ (t : Nat) (e e' : fx_E), (fm g tp bt a b)[t]? = some e → mem'[t]? = some e' → fm_chg TY ro ads tw mods ps t e e') ∧ X2 (fx_put ws σ (fx_w ps mem')) ∧ ∃ x ∈ ys, ∃ vals' : List Int, (∃ k, vals' = vals ++ k) ∧ tk_H x.2.1 vals' ∧ x.2.2.1 = [0] ∧ (∀ q ∈ x.2.2.2, tk_fk vals' [h0] (fx_put ws σ (fx_w ps mem')) q) ∧ tk_ret x.1 vals' [h0] (.returned (r.map (fx_v ps)))) : tk_KS2 l D gk_cl gk_tbl gk_xw xt gk_MN gk_P TY ro X1 X2 ads tw (k + 4) (f, (2, 0, 0, 0) :: rs, w, [0], fa, ys, mods) := by
  intro qn hqn
  -- the method's own table row
  obtain ⟨M, hM, hM21⟩ : ∃ M, gk_P[f]? = some M ∧ M.2.1 ≤ 21 := by
    have hlen : gk_MN.length = gk_P.length := gk_rok.2.2.2.2.1
    have hlt : f < gk_P.length := by rw [← hlen]; exact (List.getElem?_eq_some_iff.mp hqn).1
    refine ⟨gk_P[f], List.getElem?_eq_getElem hlt, ?_⟩
    have hall : gk_P.all (fun M => Nat.ble M.2.1 21) = true := by decide +kernel
    exact Nat.le_of_ble_eq_true (List.all_eq_true.mp hall _ (List.getElem_mem hlt))
  refine ⟨M, hM, hM21, fun vals rads ws av sz hH h3 hA2 h4 h9 hob => rk_Met_case (fun aU U hP => ?_)⟩
  obtain ⟨p1, p2, p3, p4, p5, p6, p7, p8, p10⟩ := hP
  obtain ⟨h0, r0, rfl, hty, h3'⟩ := h3.cons
  have hr0 := h3'.nil
  subst hr0
  obtain ⟨v0, rest, rfl, hg0, hA2'⟩ := hA2.cons
  obtain ⟨x0, hx0, rfl⟩ := tk_g2 hg0 rfl
  obtain rfl : h0 = x0 := Option.some.inj hx0
  obtain ⟨pl, v9, tx9, hsX, hsR⟩ := hst _ _ _ p8
  obtain ⟨g, tp, bt, a, b, ps, σ, hat, hz⟩ := fm_in pl hT h4 p6 hty
  obtain ⟨r, mem', hfr, hchg, hX2, x, hx, vals', hv, hH', hrf, hfk, hret⟩ := hex U vals rest ws h0 ps σ g tp bt a b hH hA2' p6 h4 p5 h9 hat p10
  obtain ⟨M2, hM2, -, hmet⟩ := fr_Met (l := l) (D := D) hfr qn hqn
  obtain rfl : M = M2 := Option.some.inj (hM.symm.trans hM2)
  obtain ⟨a1, a2, ⟨c0, a3⟩, a4, a5⟩ := id hat
  have hsub : ∀ (j : Nat) (q : Nat × va_E), (fx_w ps (fm g tp bt a b))[j]? = some q → ∃ i : Nat, ws[i]? = some q := by
    intro j q hj
    have hl : j < (fx_w ps (fm g tp bt a b)).length := (List.getElem?_eq_some_iff.mp hj).1
    have hl2 : j < ps.length := by
      unfold fx_w at hl
      rw [List.length_zipWith] at hl
      omega
    have hl3 : j < 22 := by
      unfold fx_w at hl
      rw [List.length_zipWith, show (fm g tp bt a b).length = 22 from rfl] at hl
      omega
    have hs : σ[j]? = some σ[j] := List.getElem?_eq_getElem (by omega)
    obtain ⟨b1, q1, e1, b2, b3, b4⟩ := a5 j _ hs
    refine ⟨σ[j], ?_⟩
    rw [b4, ← hj]
    unfold fx_w
    rw [List.getElem?_zipWith, b2, b3]
  have hPf : va_P D gk_cl (fx_w ps (fm g tp bt a b)) U.heap := fun j q hj => by
    obtain ⟨i, hi⟩ := hsub j q hj
    exact p3 i q hi
  have hidx : ∀ (j : Nat) (q : Nat × va_E), (fx_w ps (fm g tp bt a b))[j]? = some q → ∃ i : Nat, σ[j]? = some i ∧ ws[i]? = some q := by
    intro j q hj
    have hl : j < (fx_w ps (fm g tp bt a b)).length := (List.getElem?_eq_some_iff.mp hj).1
    have hl2 : j < ps.length := by
      unfold fx_w at hl
      rw [List.length_zipWith] at hl
      omega
    have hl3 : j < 22 := by
      unfold fx_w at hl
      rw [List.length_zipWith, show (fm g tp bt a b).length = 22 from rfl] at hl
      omega
    have hs : σ[j]? = some σ[j] := List.getElem?_eq_getElem (by omega)
    obtain ⟨b1, q1, e1, b2, b3, b4⟩ := a5 j _ hs
    refine ⟨σ[j], hs, ?_⟩
    rw [b4, ← hj]
    unfold fx_w
    rw [List.getElem?_zipWith, b2, b3]
  have hDf : va_D (fun _ => True) (fx_w ps (fm g tp bt a b)) := ⟨fun i j q1 q2 hi hj e => by
    obtain ⟨i', g1, g2⟩ := hidx i q1 hi
    obtain ⟨j', g3, g4⟩ := hidx j q2 hj
    have := p5.1 i' j' q1 q2 g2 g4 e
    subst this
    exact fm_at_inj hat i j i' g1 g3, fun _ _ _ => trivial⟩
  have hfree : ∀ q, va_A (fx_w ps (fm g tp bt a b)) sz q → va_A ws sz q := by
    rintro q (⟨k1, e1, hk1⟩ | hq)
    · obtain ⟨i, hi⟩ := hsub k1 _ hk1
      exact Or.inl ⟨i, e1, hi⟩
    · exact Or.inr hq
  have hrest : rest.map (fx_v ps) = rest := by
    apply List.ext_getElem?
    intro i
    rw [List.getElem?_map]
    cases hi : rest[i]? with
    | none => rfl
    | some v =>
      obtain ⟨av0, hav, hg⟩ := hA2'.getR hi
      have hk := List.all_eq_true.mp hrs av0 (List.mem_of_getElem? hav)
      obtain ⟨z, rfl, -⟩ := tk_g0 hg (Nat.eq_of_beq_eq_true hk)
      rfl
  have hargs : (Value.ref 0 :: rest).map (fx_v ps) = .ref h0 :: rest := by
    show fx_v ps (.ref 0) :: rest.map (fx_v ps) = _
    rw [hrest]
    show Value.ref (fx_ad ps 0) :: rest = _
    unfold fx_ad
    rw [a3]
  refine ⟨fx_Pre D ps (fm g tp bt a b) sz (.ref 0 :: rest), fx_Post D ps mem' r (va_A (fx_w ps (fm g tp bt a b)) sz), rk_Met_imp (hmet ps sz) (fun _ _ z => z) (fun _ _ _ _ _ _ z => z) hfree, ⟨by rw [hargs]; exact p1, p2, hPf, p4, hDf, a4, p7, ⟨v9, tx9, by rw [a1]; show sk_X (fx_ad ps 22) _ _ _ _; rw [hz]; exact hsX.narrow hfree, by rw [a1]; show vk_R _ _ _ (fx_ad ps 22) _; rw [hz]; exact hsR⟩⟩, ?_⟩
  rintro oc t hW ⟨⟨e1, hOt, hPt, hDt⟩, hF⟩
  obtain ⟨hput1, hput2⟩ := fm_put hat hOt
  have hmap : (fx_put ws σ (fx_w ps mem')).map Prod.fst = ads := by
    rw [← h4]
    apply List.ext_getElem?
    intro i
    rw [List.getElem?_map, List.getElem?_map]
    rcases fm_in_or (σ := σ) i with ⟨tt, ht⟩ | hno
    · obtain ⟨-, q, e, e', g1, g2, g3, g4, g5⟩ := hput2 tt i ht
      rw [g4, g5]
      rfl
    · rw [hput1 i hno]
  have hlenw : (fx_put ws σ (fx_w ps mem')).length = tw.length := by rw [fx_put_len]; exact p6.len.symm
  have hcl' : ∀ (i tt : Nat) (q : Nat × va_E), tw[i]? = some tt → (fx_put ws σ (fx_w ps mem'))[i]? = some q → tk_cl TY ro ads tw t tt q.2 := by
    intro i tt q htw hq
    rcases fm_in_or (σ := σ) i with ⟨t2, ht⟩ | hno
    · obtain ⟨k1, q1, e, e', g1, g2, g3, g4, g5⟩ := hput2 t2 i ht
      rw [htw] at k1
      obtain rfl : tt = t2 := Option.some.inj k1
      rw [g5] at hq
      cases hq
      obtain ⟨qq, hqq, hc0⟩ := p6.get htw
      rw [g4] at hqq
      cases hqq
      rcases hchg tt e e' g2 g3 with rfl | ⟨n, f1, f2, fl, rfl, rfl, k3, k4, -⟩ | ⟨ci, vs, vs', fs, rfl, rfl, k3, k4, k5, k6, -⟩
      · exact tk_cl_moved hW.alike hc0
      · obtain ⟨m1, m2⟩ := hOt.2 tt q1 _ _ g1 g3
        show tk_cl TY ro ads tw t tt (.inl (q1.2, n, .inl f2))
        unfold tk_cl
        rw [k3]
        exact ⟨q1.2, m1, m2, f2, rfl, k4⟩
      · unfold tk_cl at hc0
        rw [k3] at hc0
        obtain ⟨vz, hvz, hvzl, hvzf⟩ := hc0
        cases hvz
        show tk_cl TY ro ads tw t tt (.inr (ci, vs'.map (fx_v ps)))
        unfold tk_cl
        rw [k3]
        refine ⟨_, rfl, by rw [List.length_map]; exact k4, fun i2 f2 v2 hf2 hv2 => ?_⟩
        rw [List.getElem?_map] at hv2
        obtain ⟨v3, hv3, rfl⟩ := Option.map_eq_some_iff.mp hv2
        by_cases h2 : f2.1 = 2
        · have := k6 i2 f2 hf2 h2
          rw [hv3] at this
          exact hvzf i2 f2 _ hf2 (by rw [List.getElem?_map, ← this]; rfl)
        · exact k5 i2 f2 v3 hf2 hv3 h2
    · rw [hput1 i hno] at hq
      obtain ⟨qq, hqq, hc0⟩ := p6.get htw
      rw [hq] at hqq
      cases hqq
      exact tk_cl_moved hW.alike hc0
  have hnin : ∀ (i : Nat) (q : Nat × va_E), (∀ t2 : Nat, ¬ σ[t2]? = some i) → ws[i]? = some q → ¬ va_A (fx_w ps (fm g tp bt a b)) sz q.1 := by
    rintro i q hno hq (⟨k1, ee, hk1⟩ | hge)
    · obtain ⟨i', g1, g2⟩ := hidx k1 _ hk1
      have := p5.1 i i' q _ hq g2 rfl
      subst this
      exact hno k1 g1
    · have := (p3 i q hq).lt
      rw [p2] at this
      omega
  have hPw : va_P D gk_cl (fx_put ws σ (fx_w ps mem')) t.heap := by
    intro i q hq
    rcases fm_in_or (σ := σ) i with ⟨t2, ht⟩ | hno
    · obtain ⟨k1, q1, e, e', g1, g2, g3, g4, g5⟩ := hput2 t2 i ht
      rw [g5] at hq
      cases hq
      refine hPt t2 _ ?_
      unfold fx_w
      rw [List.getElem?_zipWith, g1, g3]
    · rw [hput1 i hno] at hq
      exact (p3 i q hq).kept (hF.2 q.1 (p3 i q hq).lt (hnin i q hno hq))
  have hget : ∀ (i : Nat) (q : Nat × va_E), (fx_put ws σ (fx_w ps mem'))[i]? = some q → ∃ e9, ws[i]? = some (q.1, e9) := by
    intro i q hq
    rcases fm_in_or (σ := σ) i with ⟨t2, ht⟩ | hno
    · obtain ⟨k1, q1, e, e', g1, g2, g3, g4, g5⟩ := hput2 t2 i ht
      rw [g5] at hq
      cases hq
      exact ⟨_, g4⟩
    · rw [hput1 i hno] at hq
      exact ⟨q.2, hq⟩
  have hDw : va_D (va_A ws sz) (fx_put ws σ (fx_w ps mem')) := ⟨fun i j q1 q2 hi hj e => by
    obtain ⟨e9, g1⟩ := hget i q1 hi
    obtain ⟨e8, g2⟩ := hget j q2 hj
    exact p5.1 i j _ _ g1 g2 e, fun i q hi => by
    obtain ⟨e9, g1⟩ := hget i q hi
    exact Or.inl ⟨i, e9, g1⟩⟩
  refine ⟨⟨x, hx, vals', [h0], fx_put ws σ (fx_w ps mem'), hv, ⟨[], by simp⟩, hH', ?_, hmap, rk_A2_of (by rw [hlenw]) (fun i tt q h1 h2 => hcl' i tt q h1 h2), hPw, hDw, hfk, ⟨?_, hX2⟩, ?_⟩, hF.1, fun q h9' hn9 => hF.2 q h9' (fun z => hn9 (hfree q z))⟩
  · rw [hrf]
    exact ⟨hty, trivial⟩
  · intro j y e hj
    rcases fm_in_or (σ := σ) j with ⟨t2, ht⟩ | hno
    · obtain ⟨k1, q1, e0, e', g1, g2, g3, g4, g5⟩ := hput2 t2 j ht
      rw [hj] at g4
      cases g4
      refine ⟨_, g5, ?_⟩
      rcases hchg t2 e0 e' g2 g3 with rfl | ⟨n, f1, f2, fl, rfl, rfl, k3, k4, k5, k6⟩ | ⟨ci, vs, vs', fs, rfl, rfl, k3, k4, k5, k6, k7, k8⟩
      · exact ⟨fun _ _ _ _ => rfl, fun _ _ _ => rfl⟩
      · refine ⟨fun i t ht2 hn => ?_, fun t ht2 hn => ?_⟩
        · rw [k1] at ht2
          cases ht2
          show (if i < n then some (Value.int (f2 i)) else none) = (if i < n then some (Value.int (f1 i)) else none)
          rw [k5 i hn]
        · rw [k1] at ht2
          cases ht2
          obtain ⟨i, hi⟩ := k6
          exact absurd hi (hn i)
      · refine ⟨fun i t ht2 hn => ?_, fun t ht2 hn => ?_⟩
        · rw [k1] at ht2
          cases ht2
          show (vs'.map (fx_v ps))[i]? = (vs.map (fx_v ps))[i]?
          rw [List.getElem?_map, List.getElem?_map, k7 i hn]
        · rw [k1] at ht2
          cases ht2
          obtain ⟨i, hi⟩ := k8
          exact absurd hi (hn i)
    · exact ⟨e, by rw [hput1 j hno]; exact hj, fun _ _ _ _ => rfl, fun _ _ _ => rfl⟩
  · rw [e1]
    exact hret
end FMO
