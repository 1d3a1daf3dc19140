section MH26_0
/-! ===== the model: what holds of its memory between calls; a public call by fx as a tk contract ===== -/
/-- what a changed cell must be -/
def fm_chg2 (TY : tk_TT) (ro : Nat → Nat → Int → Prop) (ads tw : List Nat) (mods : List (Nat × Nat)) (ps : fx_P) (t : Nat) (e e' : fx_E) : Prop := e' = e ∨ (∃ (kd : FieldType) (n : Nat) (f f' : Nat → Int32) (fl : tk_F), (kd = .int ∨ kd = .byte) ∧ e = .inr (kd, n, .inl f) ∧ e' = .inr (kd, n, .inl f') ∧ TY.1[t]? = some (.inr (kd, n, fl)) ∧ (∀ i : Nat, i < n → tk_fv ro TY.2.1 ads tw t i fl (.int (f' i))) ∧ 0 < n ∧ ∀ i : Nat, i < n → (t, tk_rg TY t i) ∈ mods) ∨ (∃ (n : Nat) (f f' : Nat → Int64) (fl : tk_F), e = .inr (.long, n, .inr (.inl f)) ∧ e' = .inr (.long, n, .inr (.inl f')) ∧ TY.1[t]? = some (.inr (.long, n, fl)) ∧ (∀ i : Nat, i < n → tk_fv ro TY.2.1 ads tw t i fl (.long (f' i))) ∧ 0 < n ∧ ∀ i : Nat, i < n → (t, tk_rg TY t i) ∈ mods) ∨ (∃ (ci : Nat) (vs vs' : List Value) (fs : List tk_F), e = .inl (ci, vs) ∧ e' = .inl (ci, vs') ∧ TY.1[t]? = some (.inl (ci, fs)) ∧ vs'.length = fs.length ∧ (∀ (i : Nat) (f : tk_F) (v : Value), fs[i]? = some f → vs'[i]? = some v → ¬ f.1 = 2 → tk_fv ro TY.2.1 ads tw t i f (fx_v ps v)) ∧ (∀ (i : Nat) (f : tk_F), fs[i]? = some f → f.1 = 2 → vs'[i]? = vs[i]?) ∧ (∀ i : Nat, ¬ (t, tk_rg TY t i) ∈ mods → vs'[i]? = vs[i]?) ∧ ∃ i : Nat, (t, tk_rg TY t i) ∈ mods)
section FMO3
variable {l : Launch} {D : va_G} {tbl xw : List Jvm.Cond} {xt : tk_XT} {MN : List rk_N} {P : List rk_M2} {TY : tk_TT} {ro : Nat → Nat → Int → Prop} {X1 X2 : va_W → Prop} {ads tw : List Nat}
set_option maxHeartbeats 8000000 in
theorem fm_KS3 (hst : ∀ (Ad : Nat → Prop) (U : State) (H : Heap), xt Ad U H → ∃ pl v tx, sk_X pl v Ad U H ∧ vk_R "GooseIceModel" 189 tx pl U) (hT : fm_Ty TY) {k f : Nat} {rs : List tk_V} {w : tk_W} {fa : tk_FA} {ys : List tk_X} {mods : List (Nat × Nat)} (hrs : rs.all (fun v => Nat.beq v.1 0) = true)
    (hex : ∀ (U : State) (vals : List Int) (rest : List Value) (ws : va_W) (h0 : Nat) (ps : fx_P) (σ : List Nat) (g : Nat → Int32) (tp bt : Int64) (a : Nat → Nat → Int32) (b : Nat → Nat → Int64), tk_H w vals → rk_A2 (tk_g vals [h0]) rs rest → rk_A2 (fun t (q : Nat × va_E) => tk_cl TY ro ads tw U t q.2) tw ws → ws.map Prod.fst = ads → va_D (fun _ => True) ws → (∀ z ∈ fa, tk_fk vals [h0] ws z) → fm_at U tw ws h0 ps σ (fm g tp bt a b) → X1 ws →
      ∃ (r : Option Value) (mem' : fx_M), fr_T k f (.ref 0 :: rest) (fm g tp bt a b) r mem' ∧ (∀ (t : Nat) (e e' : fx_E), (fm g tp bt a b)[t]? = some e → mem'[t]? = some e' → fm_chg2 TY ro ads tw mods ps t e e') ∧ X2 (fx_put ws σ (fx_w ps mem')) ∧ ∃ x ∈ ys, ∃ vals' : List Int, (∃ k, vals' = vals ++ k) ∧ tk_H x.2.1 vals' ∧ x.2.2.1 = [0] ∧ (∀ q ∈ x.2.2.2, tk_fk vals' [h0] (fx_put ws σ (fx_w ps mem')) q) ∧ tk_ret x.1 vals' [h0] (.returned (r.map (fx_v ps)))) : tk_KS2 l D gk_cl gk_tbl gk_xw xt gk_MN gk_P TY ro X1 X2 ads tw (k + 4) (f, (2, 0, 0, 0) :: rs, w, [0], fa, ys, mods) := by
  intro qn hqn
  -- the method's own table row
  obtain ⟨M, hM, hM21⟩ : ∃ M, gk_P[f]? = some M ∧ M.2.1 ≤ 21 := by
    have hlen : gk_MN.length = gk_P.length := gk_rok.2.2.2.2.1
    have hlt : f < gk_P.length := by rw [← hlen]; exact (List.getElem?_eq_some_iff.mp hqn).1
    refine ⟨gk_P[f], List.getElem?_eq_getElem hlt, ?_⟩
    have hall : gk_P.all (fun M => Nat.ble M.2.1 21) = true := by decide +kernel
    exact Nat.le_of_ble_eq_true (List.all_eq_true.mp hall _ (List.getElem_mem hlt))
  refine ⟨M, hM, hM21, fun vals rads ws av sz hH h3 hA2 h4 h9 hob => rk_Met_case (fun aU U hP => ?_)⟩
  obtain ⟨p1, p2, p3, p4, p5, p6, p7, p8, p10⟩ := hP
  obtain ⟨h0, r0, rfl, hty, h3'⟩ := h3.cons
  have hr0 := h3'.nil
  subst hr0
  obtain ⟨v0, rest, rfl, hg0, hA2'⟩ := hA2.cons
  obtain ⟨x0, hx0, rfl⟩ := tk_g2 hg0 rfl
  obtain rfl : h0 = x0 := Option.some.inj hx0
  obtain ⟨pl, v9, tx9, hsX, hsR⟩ := hst _ _ _ p8
  obtain ⟨g, tp, bt, a, b, ps, σ, hat, hz⟩ := fm_in pl hT h4 p6 hty
  obtain ⟨r, mem', hfr, hchg, hX2, x, hx, vals', hv, hH', hrf, hfk, hret⟩ := hex U vals rest ws h0 ps σ g tp bt a b hH hA2' p6 h4 p5 h9 hat p10
  obtain ⟨M2, hM2, -, hmet⟩ := fr_Met (l := l) (D := D) hfr qn hqn
  obtain rfl : M = M2 := Option.some.inj (hM.symm.trans hM2)
  obtain ⟨a1, a2, ⟨c0, a3⟩, a4, a5⟩ := id hat
  have hsub : ∀ (j : Nat) (q : Nat × va_E), (fx_w ps (fm g tp bt a b))[j]? = some q → ∃ i : Nat, ws[i]? = some q := by
    intro j q hj
    have hl : j < (fx_w ps (fm g tp bt a b)).length := (List.getElem?_eq_some_iff.mp hj).1
    have hl2 : j < ps.length := by
      unfold fx_w at hl
      rw [List.length_zipWith] at hl
      omega
    have hl3 : j < 22 := by
      unfold fx_w at hl
      rw [List.length_zipWith, show (fm g tp bt a b).length = 22 from rfl] at hl
      omega
    have hs : σ[j]? = some σ[j] := List.getElem?_eq_getElem (by omega)
    obtain ⟨b1, q1, e1, b2, b3, b4⟩ := a5 j _ hs
    refine ⟨σ[j], ?_⟩
    rw [b4, ← hj]
    unfold fx_w
    rw [List.getElem?_zipWith, b2, b3]
  have hPf : va_P D gk_cl (fx_w ps (fm g tp bt a b)) U.heap := fun j q hj => by
    obtain ⟨i, hi⟩ := hsub j q hj
    exact p3 i q hi
  have hidx : ∀ (j : Nat) (q : Nat × va_E), (fx_w ps (fm g tp bt a b))[j]? = some q → ∃ i : Nat, σ[j]? = some i ∧ ws[i]? = some q := by
    intro j q hj
    have hl : j < (fx_w ps (fm g tp bt a b)).length := (List.getElem?_eq_some_iff.mp hj).1
    have hl2 : j < ps.length := by
      unfold fx_w at hl
      rw [List.length_zipWith] at hl
      omega
    have hl3 : j < 22 := by
      unfold fx_w at hl
      rw [List.length_zipWith, show (fm g tp bt a b).length = 22 from rfl] at hl
      omega
    have hs : σ[j]? = some σ[j] := List.getElem?_eq_getElem (by omega)
    obtain ⟨b1, q1, e1, b2, b3, b4⟩ := a5 j _ hs
    refine ⟨σ[j], hs, ?_⟩
    rw [b4, ← hj]
    unfold fx_w
    rw [List.getElem?_zipWith, b2, b3]
  have hDf : va_D (fun _ => True) (fx_w ps (fm g tp bt a b)) := ⟨fun i j q1 q2 hi hj e => by
    obtain ⟨i', g1, g2⟩ := hidx i q1 hi
    obtain ⟨j', g3, g4⟩ := hidx j q2 hj
    have := p5.1 i' j' q1 q2 g2 g4 e
    subst this
    exact fm_at_inj hat i j i' g1 g3, fun _ _ _ => trivial⟩
  have hfree : ∀ q, va_A (fx_w ps (fm g tp bt a b)) sz q → va_A ws sz q := by
    rintro q (⟨k1, e1, hk1⟩ | hq)
    · obtain ⟨i, hi⟩ := hsub k1 _ hk1
      exact Or.inl ⟨i, e1, hi⟩
    · exact Or.inr hq
  have hrest : rest.map (fx_v ps) = rest := by
    apply List.ext_getElem?
    intro i
    rw [List.getElem?_map]
    cases hi : rest[i]? with
    | none => rfl
    | some v =>
      obtain ⟨av0, hav, hg⟩ := hA2'.getR hi
      have hk := List.all_eq_true.mp hrs av0 (List.mem_of_getElem? hav)
      obtain ⟨z, rfl, -⟩ := tk_g0 hg (Nat.eq_of_beq_eq_true hk)
      rfl
  have hargs : (Value.ref 0 :: rest).map (fx_v ps) = .ref h0 :: rest := by
    show fx_v ps (.ref 0) :: rest.map (fx_v ps) = _
    rw [hrest]
    show Value.ref (fx_ad ps 0) :: rest = _
    unfold fx_ad
    rw [a3]
  refine ⟨fx_Pre D ps (fm g tp bt a b) sz (.ref 0 :: rest), fx_Post D ps mem' r (va_A (fx_w ps (fm g tp bt a b)) sz), rk_Met_imp (hmet ps sz) (fun _ _ z => z) (fun _ _ _ _ _ _ z => z) hfree, ⟨by rw [hargs]; exact p1, p2, hPf, p4, hDf, a4, p7, ⟨v9, tx9, by rw [a1]; show sk_X (fx_ad ps 22) _ _ _ _; rw [hz]; exact hsX.narrow hfree, by rw [a1]; show vk_R _ _ _ (fx_ad ps 22) _; rw [hz]; exact hsR⟩⟩, ?_⟩
  rintro oc t hW ⟨⟨e1, hOt, hPt, hDt⟩, hF⟩
  obtain ⟨hput1, hput2⟩ := fm_put hat hOt
  have hmap : (fx_put ws σ (fx_w ps mem')).map Prod.fst = ads := by
    rw [← h4]
    apply List.ext_getElem?
    intro i
    rw [List.getElem?_map, List.getElem?_map]
    rcases fm_in_or (σ := σ) i with ⟨tt, ht⟩ | hno
    · obtain ⟨-, q, e, e', g1, g2, g3, g4, g5⟩ := hput2 tt i ht
      rw [g4, g5]
      rfl
    · rw [hput1 i hno]
  have hlenw : (fx_put ws σ (fx_w ps mem')).length = tw.length := by rw [fx_put_len]; exact p6.len.symm
  have hcl' : ∀ (i tt : Nat) (q : Nat × va_E), tw[i]? = some tt → (fx_put ws σ (fx_w ps mem'))[i]? = some q → tk_cl TY ro ads tw t tt q.2 := by
    intro i tt q htw hq
    rcases fm_in_or (σ := σ) i with ⟨t2, ht⟩ | hno
    · obtain ⟨k1, q1, e, e', g1, g2, g3, g4, g5⟩ := hput2 t2 i ht
      rw [htw] at k1
      obtain rfl : tt = t2 := Option.some.inj k1
      rw [g5] at hq
      cases hq
      obtain ⟨qq, hqq, hc0⟩ := p6.get htw
      rw [g4] at hqq
      cases hqq
      rcases hchg tt e e' g2 g3 with rfl | ⟨kd, n, f1, f2, fl, hkd, rfl, rfl, k3, k4, -⟩ | ⟨n, f1, f2, fl, rfl, rfl, k3, k4, -⟩ | ⟨ci, vs, vs', fs, rfl, rfl, k3, k4, k5, k6, -⟩
      · exact tk_cl_moved hW.alike hc0
      · obtain ⟨m1, m2⟩ := hOt.2 tt q1 _ _ g1 g3
        show tk_cl TY ro ads tw t tt (.inl (q1.2, n, .inl f2))
        unfold tk_cl
        rw [k3]
        rcases hkd with rfl | rfl
        · exact ⟨q1.2, m1, m2, f2, rfl, k4⟩
        · exact ⟨q1.2, m1, m2, f2, rfl, k4⟩
      · obtain ⟨m1, m2⟩ := hOt.2 tt q1 _ _ g1 g3
        show tk_cl TY ro ads tw t tt (.inl (q1.2, n, .inr (.inl f2)))
        unfold tk_cl
        rw [k3]
        exact ⟨q1.2, m1, m2, f2, rfl, k4⟩
      · unfold tk_cl at hc0
        rw [k3] at hc0
        obtain ⟨vz, hvz, hvzl, hvzf⟩ := hc0
        cases hvz
        show tk_cl TY ro ads tw t tt (.inr (ci, vs'.map (fx_v ps)))
        unfold tk_cl
        rw [k3]
        refine ⟨_, rfl, by rw [List.length_map]; exact k4, fun i2 f2 v2 hf2 hv2 => ?_⟩
        rw [List.getElem?_map] at hv2
        obtain ⟨v3, hv3, rfl⟩ := Option.map_eq_some_iff.mp hv2
        by_cases h2 : f2.1 = 2
        · have := k6 i2 f2 hf2 h2
          rw [hv3] at this
          exact hvzf i2 f2 _ hf2 (by rw [List.getElem?_map, ← this]; rfl)
        · exact k5 i2 f2 v3 hf2 hv3 h2
    · rw [hput1 i hno] at hq
      obtain ⟨qq, hqq, hc0⟩ := p6.get htw
      rw [hq] at hqq
      cases hqq
      exact tk_cl_moved hW.alike hc0
  have hnin : ∀ (i : Nat) (q : Nat × va_E), (∀ t2 : Nat, ¬ σ[t2]? = some i) → ws[i]? = some q → ¬ va_A (fx_w ps (fm g tp bt a b)) sz q.1 := by
    rintro i q hno hq (⟨k1, ee, hk1⟩ | hge)
    · obtain ⟨i', g1, g2⟩ := hidx k1 _ hk1
      have := p5.1 i i' q _ hq g2 rfl
      subst this
      exact hno k1 g1
    · have := (p3 i q hq).lt
      rw [p2] at this
      omega
  have hPw : va_P D gk_cl (fx_put ws σ (fx_w ps mem')) t.heap := by
    intro i q hq
    rcases fm_in_or (σ := σ) i with ⟨t2, ht⟩ | hno
    · obtain ⟨k1, q1, e, e', g1, g2, g3, g4, g5⟩ := hput2 t2 i ht
      rw [g5] at hq
      cases hq
      refine hPt t2 _ ?_
      unfold fx_w
      rw [List.getElem?_zipWith, g1, g3]
    · rw [hput1 i hno] at hq
      exact (p3 i q hq).kept (hF.2 q.1 (p3 i q hq).lt (hnin i q hno hq))
  have hget : ∀ (i : Nat) (q : Nat × va_E), (fx_put ws σ (fx_w ps mem'))[i]? = some q → ∃ e9, ws[i]? = some (q.1, e9) := by
    intro i q hq
    rcases fm_in_or (σ := σ) i with ⟨t2, ht⟩ | hno
    · obtain ⟨k1, q1, e, e', g1, g2, g3, g4, g5⟩ := hput2 t2 i ht
      rw [g5] at hq
      cases hq
      exact ⟨_, g4⟩
    · rw [hput1 i hno] at hq
      exact ⟨q.2, hq⟩
  have hDw : va_D (va_A ws sz) (fx_put ws σ (fx_w ps mem')) := ⟨fun i j q1 q2 hi hj e => by
    obtain ⟨e9, g1⟩ := hget i q1 hi
    obtain ⟨e8, g2⟩ := hget j q2 hj
    exact p5.1 i j _ _ g1 g2 e, fun i q hi => by
    obtain ⟨e9, g1⟩ := hget i q hi
    exact Or.inl ⟨i, e9, g1⟩⟩
  refine ⟨⟨x, hx, vals', [h0], fx_put ws σ (fx_w ps mem'), hv, ⟨[], by simp⟩, hH', ?_, hmap, rk_A2_of (by rw [hlenw]) (fun i tt q h1 h2 => hcl' i tt q h1 h2), hPw, hDw, hfk, ⟨?_, hX2⟩, ?_⟩, hF.1, fun q h9' hn9 => hF.2 q h9' (fun z => hn9 (hfree q z))⟩
  · rw [hrf]
    exact ⟨hty, trivial⟩
  · intro j y e hj
    rcases fm_in_or (σ := σ) j with ⟨t2, ht⟩ | hno
    · obtain ⟨k1, q1, e0, e', g1, g2, g3, g4, g5⟩ := hput2 t2 j ht
      rw [hj] at g4
      cases g4
      refine ⟨_, g5, ?_⟩
      rcases hchg t2 e0 e' g2 g3 with rfl | ⟨kd, n, f1, f2, fl, hkd, rfl, rfl, k3, k4, k0, k5⟩ | ⟨n, f1, f2, fl, rfl, rfl, k3, k4, k0, k5⟩ | ⟨ci, vs, vs', fs, rfl, rfl, k3, k4, k5, k6, k7, k8⟩
      · exact ⟨fun _ _ _ _ => rfl, fun _ _ _ => rfl⟩
      · refine ⟨fun i t ht2 hn => ?_, fun t ht2 hn => ?_⟩
        · rw [k1] at ht2
          cases ht2
          show (if i < n then some (Value.int (f2 i)) else none) = (if i < n then some (Value.int (f1 i)) else none)
          by_cases hin : i < n
          · exact absurd (k5 i hin) hn
          · rw [if_neg hin, if_neg hin]
        · rw [k1] at ht2
          cases ht2
          exact absurd (k5 0 k0) (hn 0)
      · refine ⟨fun i t ht2 hn => ?_, fun t ht2 hn => ?_⟩
        · rw [k1] at ht2
          cases ht2
          show (if i < n then some (Value.long (f2 i)) else none) = (if i < n then some (Value.long (f1 i)) else none)
          by_cases hin : i < n
          · exact absurd (k5 i hin) hn
          · rw [if_neg hin, if_neg hin]
        · rw [k1] at ht2
          cases ht2
          exact absurd (k5 0 k0) (hn 0)
      · refine ⟨fun i t ht2 hn => ?_, fun t ht2 hn => ?_⟩
        · rw [k1] at ht2
          cases ht2
          show (vs'.map (fx_v ps))[i]? = (vs.map (fx_v ps))[i]?
          rw [List.getElem?_map, List.getElem?_map, k7 i hn]
        · rw [k1] at ht2
          cases ht2
          obtain ⟨i, hi⟩ := k8
          exact absurd hi (hn i)
    · exact ⟨e, by rw [hput1 j hno]; exact hj, fun _ _ _ _ => rfl, fun _ _ _ => rfl⟩
  · rw [e1]
    exact hret
end FMO3
def gm_fl : List tk_F := [(2, 1, 0), (2, 2, 0), (0, 0, 9), (1, (-9223372036854775808), 9223372036854775807), (1, (-9223372036854775808), 9223372036854775807), (2, 3, 0), (2, 4, 0), (2, 5, 0), (2, 6, 0), (2, 7, 0), (0, 0, 900), (0, 0, 900), (0, 0, 4), (0, 0, 900), (0, 0, 900), (0, (-2147483648), 1000000), (0, (-1), 7), (0, (-1), 900), (0, 0, 7), (0, 0, 0), (0, (-2147483648), 2147483647), (2, 8, 0), (0, 0, 3), (0, 0, 30), (2, 9, 0), (0, (-2147483648), 2147483647), (2, 10, 0), (2, 11, 0), (2, 12, 0), (2, 13, 0), (0, 0, 4), (2, 14, 0), (2, 15, 0), (2, 16, 0), (2, 17, 0), (2, 18, 0), (0, (-2147483648), 2147483647), (0, 0, 300), (2, 19, 0), (2, 20, 0), (2, 21, 0), (0, 0, 1), (0, 0, 3)]
theorem gm_fl_eq : gm_ty[0]? = some (.inl (12, gm_fl)) := rfl
def gm_gf : List (Nat × Int × Int) := [(2, 0, 9), (10, 0, 900), (11, 0, 900), (12, 0, 4), (13, 0, 900), (14, 0, 900), (15, (-2147483648), 1000000), (16, (-1), 7), (17, (-1), 900), (18, 0, 7), (19, 0, 0), (20, (-2147483648), 2147483647), (22, 0, 3), (23, 0, 30), (25, (-2147483648), 2147483647), (30, 0, 4), (36, (-2147483648), 2147483647), (37, 0, 300), (41, 0, 1), (42, 0, 3)]
def gm_ar : List (Nat × Nat × Int × Int) := [(3, 4, 0, 3), (4, 4, (-1), 60), (6, 900, (-128), 127), (7, 900, (-128), 127), (8, 3, 0, 59), (14, 256, 0, 1000000), (15, 427, 0, 1000000)]
/-- within the types, and X -/
def fm_I (g : Nat → Int32) (a : Nat → Nat → Int32) : Prop := (∀ q ∈ gm_gf, q.2.1 ≤ (g q.1).toInt ∧ (g q.1).toInt ≤ q.2.2) ∧ fm_B a ∧ ∀ q ∈ gm_ar, ∀ i, i < q.2.1 → q.2.2.1 ≤ (a q.1 i).toInt ∧ (a q.1 i).toInt ≤ q.2.2.2
/-- the places that X looks at -/
def gn_FX : List (Nat × Nat) := [(1, 10), (1, 42), (1, 74), (1, 106), (1, 138), (1, 170), (1, 202), (1, 6), (1, 38), (1, 70), (1, 102), (1, 21), (1, 53), (1, 85), (1, 117), (1, 22), (1, 54), (1, 86), (1, 118)]
def gn_xp (i : Nat) : Bool := tk_in gn_FX 1 (gm_rg i)
theorem gn_xp_w : ∀ s, s < 7 → ∀ c, c < 10 → gn_xp (842 * s + 10 + 6 * c) = true := by decide +kernel
theorem gn_xp_6 : ∀ s, s < 4 → gn_xp (842 * s + 6) = true := by decide +kernel
theorem gn_xp_r : ∀ s, s < 4 → ∀ n, n < 60 → gn_xp (842 * s + 478 + 6 * n) = true ∧ gn_xp (842 * s + 479 + 6 * n) = true := by decide +kernel
def gn_XP (e : va_E) : Prop := ∀ f : Nat → Int32, (∀ i, i < 5894 → gn_xp i = true → tk_pos e i = some (.int (f i))) → (∀ s, s < 4 → (f (842 * s + 6)).toInt ≤ 60) → fm_XA (fun _ => f)
/-- ways symmetric and rows good, in a typed world -/
def gn_X (tw : List Nat) (ws : va_W) : Prop := ∀ (j y : Nat) (e : va_E), tw[j]? = some 1 → ws[j]? = some (y, e) → gn_XP e
theorem gn_XA_eq {a : Nat → Nat → Int32} {f : Nat → Int32} (h : ∀ i, i < 5894 → gn_xp i = true → f i = a 1 i) (h6 : ∀ s, s < 4 → (a 1 (842 * s + 6)).toInt ≤ 60) (hX : fm_XA a) : fm_XA (fun _ => f) := by
  refine ⟨fun s hs c d hc hd => ?_, fun s hs n hn => ?_⟩
  · show fm_b (f (842 * s + 10 + 6 * c)) (nI d) = fm_b (f (842 * s + 10 + 6 * d)) (nI c)
    rw [h _ (by omega) (gn_xp_w s hs c hc), h _ (by omega) (gn_xp_w s hs d hd)]
    exact hX.1 s hs c d hc hd
  · have hn : (n : Int) < (f (842 * s + 6)).toInt := hn
    rw [h _ (by omega) (gn_xp_6 s hs)] at hn
    have := h6 s hs
    have hr := gn_xp_r s hs n (by omega)
    show fm_ro (f (842 * s + 478 + 6 * n)) (f (842 * s + 479 + 6 * n))
    rw [h _ (by omega) hr.1, h _ (by omega) hr.2]
    exact hX.2 s hs n hn
theorem fm_B_60 {a : Nat → Nat → Int32} (h : ∀ i, i < 5894 → fm_bd a i) : ∀ s, s < 4 → (a 1 (842 * s + 6)).toInt ≤ 60 := fun s hs => by
  have h1 := (h (842 * s + 6) (by omega)).2
  have hg : ∀ s, s < 4 → (gm_at (842 * s + 6)).2 ≤ 60 := by decide
  have := hg s hs
  omega
theorem gn_X1 {TY : tk_TT} (hT : fm_Ty TY) {tw : List Nat} : tk_X1 TY gn_FX (gn_X tw) tw := by
  intro m ws ws' hm hF hun hX j y e' hj hw f hf h6
  have h1 : (ws'.map Prod.fst)[j]? = some y := by rw [List.getElem?_map, hw]; rfl
  rw [hm, List.getElem?_map] at h1
  obtain ⟨q, hq, e1⟩ := Option.map_eq_some_iff.mp h1
  obtain ⟨e2, g1, g2, -⟩ := hun j q.1 q.2 hq
  rw [hw] at g1
  cases g1
  refine hX j _ q.2 hj hq f (fun i hi hx => ?_) h6
  rw [← g2 i 1 hj (fun hz => ?_)]
  · exact hf i hi hx
  · have e3 : tk_rg TY 1 i = gm_rg i := by unfold tk_rg; rw [hT.2.2]; rfl
    rw [e3] at hz
    exact hF _ hz (tk_in_ok.mp hx)
section FMI
variable {U : State} {tw ads : List Nat} {ws : va_W} {h0 : Nat} {ps : fx_P} {σ : List Nat} {TY : tk_TT} {ro : Nat → Nat → Int → Prop} {g g' : Nat → Int32} {tp bt tp' bt' : Int64} {a a' : Nat → Nat → Int32} {b b' : Nat → Nat → Int64} {mods : List (Nat × Nat)}
theorem fm_tyF (hT : fm_Ty TY) (h5 : rk_A2 (fun t (q : Nat × va_E) => tk_cl TY ro ads tw U t q.2) tw ws) (hat : fm_at U tw ws h0 ps σ (fm g tp bt a b)) {k : Nat} {lo hi : Int} (hf : gm_fl[k]? = some (0, lo, hi)) (ho : (fm_o g tp bt)[k]? = some (.int (g k))) : lo ≤ (g k).toInt ∧ (g k).toInt ≤ hi := by
  obtain ⟨q, -, h⟩ := fm_cl h5 hat (t := 0) (by decide) rfl
  unfold tk_cl at h
  rw [hT.1, gm_fl_eq] at h
  obtain ⟨vs, hvs, hl, hv⟩ := h
  have hvs : (Sum.inr (12, (fm_o g tp bt).map (fx_v ps)) : va_E) = .inr (12, vs) := hvs
  cases hvs
  obtain ⟨x, hx, h1, h2⟩ : ∃ x : Int32, Value.int (g k) = .int x ∧ lo ≤ x.toInt ∧ x.toInt ≤ hi := hv k (0, lo, hi) (.int (g k)) hf (by rw [List.getElem?_map, ho]; rfl)
  cases hx
  exact ⟨h1, h2⟩
theorem fm_fv0i {reg : Nat → Nat → tk_I} {t i : Nat} {lo hi : Int} {x : Int32} (h : tk_fv ro reg ads tw t i (0, lo, hi) (.int x)) : lo ≤ x.toInt ∧ x.toInt ≤ hi := by
  obtain ⟨y, hy, h1, h2⟩ : ∃ y : Int32, Value.int x = .int y ∧ lo ≤ y.toInt ∧ y.toInt ≤ hi := h
  cases hy
  exact ⟨h1, h2⟩
theorem fm_tyY (h5 : rk_A2 (fun t (q : Nat × va_E) => tk_cl TY ro ads tw U t q.2) tw ws) {mem : fx_M} (hat : fm_at U tw ws h0 ps σ mem) {t n : Nat} {f : Nat → Int32} {fl : tk_F} (ht : t < 22) (he : mem[t]? = some (.inr (.byte, n, .inl f))) (hk : TY.1[t]? = some (.inr (.byte, n, fl))) : ∀ i, i < n → tk_fv ro TY.2.1 ads tw t i fl (.int (f i)) := by
  obtain ⟨q, -, h⟩ := fm_cl h5 hat ht he
  unfold tk_cl at h
  rw [hk] at h
  obtain ⟨cA, -, -, h⟩ := h
  obtain ⟨f2, e2, h⟩ : ∃ f2 : Nat → Int32, fx_c ps q.2 (.inr (.byte, n, .inl f)) = .inl (cA, n, .inl f2) ∧ ∀ i, i < n → tk_fv ro TY.2.1 ads tw t i fl (.int (f2 i)) := h
  have e3 : f = f2 := by
    have : (Sum.inl (q.2, n, Sum.inl f) : va_E) = .inl (cA, n, .inl f2) := e2
    cases this
    rfl
  subst e3
  exact h
theorem fm_X1 (hat : fm_at U tw ws h0 ps σ (fm g tp bt a b)) (hX : gn_X tw ws) (h6 : ∀ s, s < 4 → (a 1 (842 * s + 6)).toInt ≤ 60) : fm_XA a := by
  have hl1 : 1 < σ.length := by have := hat.2.1; omega
  have hs : σ[1]? = some σ[1] := List.getElem?_eq_getElem hl1
  obtain ⟨h1, q, e0, g1, g2, g3⟩ := hat.2.2.2.2 1 _ hs
  cases g2
  refine hX _ _ _ h1 g3 (a 1) (fun i hi _ => ?_) h6
  show (if i < 5894 then some (Value.int (a 1 i)) else none) = _
  rw [if_pos hi]
theorem fm_X2 (hat : fm_at U tw ws h0 ps σ (fm g tp bt a b)) (hX : gn_X tw ws) (hB : fm_XA a') (h60 : ∀ s, s < 4 → (a' 1 (842 * s + 6)).toInt ≤ 60) : gn_X tw (fx_put ws σ (fx_w ps (fm g' tp' bt' a' b'))) := by
  intro j y e hj hw
  rcases fm_in_or (σ := σ) j with ⟨t, ht⟩ | hno
  · obtain ⟨h1, q, e0, g1, g2, g3⟩ := hat.2.2.2.2 t j ht
    rw [hj] at h1
    obtain rfl : 1 = t := Option.some.inj h1
    have hp : (fx_put ws σ (fx_w ps (fm g' tp' bt' a' b')))[j]? = some (q.1, fx_c ps q.2 (.inr (.int, 5894, .inl (a' 1)))) := fx_put_in ws (List.getElem?_eq_some_iff.mp g3).1 σ _ 1 (fm_at_inj hat) ht (by unfold fx_w; rw [List.getElem?_zipWith, g1]; rfl)
    rw [hp] at hw
    cases hw
    intro f hf h6
    refine gn_XA_eq (fun i hi hx => ?_) h60 hB
    have h := hf i hi hx
    have h : (if i < 5894 then some (Value.int (a' 1 i)) else none) = some (Value.int (f i)) := h
    rw [if_pos hi] at h
    exact (Value.int.inj (Option.some.inj h)).symm
  · rw [fx_put_out ws σ _ hno] at hw
    exact hX j y e hj hw
theorem fm_I_of (hT : fm_Ty TY) (h5 : rk_A2 (fun t (q : Nat × va_E) => tk_cl TY ro ads tw U t q.2) tw ws) (hat : fm_at U tw ws h0 ps σ (fm g tp bt a b)) (hX : gn_X tw ws) : fm_I g a := by
  refine ⟨fun q hq => ?_, ⟨fun i hi => fm_tyA hT h5 hat hi, fm_X1 hat hX (fm_B_60 (fun i hi => fm_tyA hT h5 hat hi)), fun i hi => ?_⟩, fun q hq => ?_⟩
  · simp only [gm_gf, List.mem_cons, List.not_mem_nil, or_false] at hq
    rcases hq with rfl | rfl | rfl | rfl | rfl | rfl | rfl | rfl | rfl | rfl | rfl | rfl | rfl | rfl | rfl | rfl | rfl | rfl | rfl | rfl
    all_goals exact fm_tyF hT h5 hat rfl rfl
  · have h := fm_tyI h5 hat (t := 9) (by decide) rfl (by rw [hT.1]; rfl) i hi
    obtain ⟨x, hx, h1, h2⟩ : ∃ x : Int32, Value.int (a 9 i) = .int x ∧ (TY.2.1 9 i).1 ≤ x.toInt ∧ x.toInt ≤ (TY.2.1 9 i).2 := h
    cases hx
    rw [hT.2.1] at h1 h2
    exact ⟨h1, h2⟩
  · simp only [gm_ar, List.mem_cons, List.not_mem_nil, or_false] at hq
    rcases hq with rfl | rfl | rfl | rfl | rfl | rfl | rfl
    · intro i hi
      exact fm_fv0i (fm_tyI h5 hat (t := 3) (fl := (0, 0, 3)) (by decide) rfl (by rw [hT.1]; rfl) i hi)
    · intro i hi
      exact fm_fv0i (fm_tyI h5 hat (t := 4) (fl := (0, (-1), 60)) (by decide) rfl (by rw [hT.1]; rfl) i hi)
    · intro i hi
      exact fm_fv0i (fm_tyY h5 hat (t := 6) (fl := (0, (-128), 127)) (by decide) rfl (by rw [hT.1]; rfl) i hi)
    · intro i hi
      exact fm_fv0i (fm_tyY h5 hat (t := 7) (fl := (0, (-128), 127)) (by decide) rfl (by rw [hT.1]; rfl) i hi)
    · intro i hi
      exact fm_fv0i (fm_tyI h5 hat (t := 8) (fl := (0, 0, 59)) (by decide) rfl (by rw [hT.1]; rfl) i hi)
    · intro i hi
      exact fm_fv0i (fm_tyI h5 hat (t := 14) (fl := (0, 0, 1000000)) (by decide) rfl (by rw [hT.1]; rfl) i hi)
    · intro i hi
      exact fm_fv0i (fm_tyI h5 hat (t := 15) (fl := (0, 0, 1000000)) (by decide) rfl (by rw [hT.1]; rfl) i hi)
theorem fm_fv0 {reg : Nat → Nat → tk_I} {t i : Nat} {lo hi : Int} {x : Int32} (h : lo ≤ x.toInt ∧ x.toInt ≤ hi) : tk_fv ro reg ads tw t i (0, lo, hi) (.int x) := ⟨x, rfl, h.1, h.2⟩
theorem fm_i32 (x : Int32) : (-2147483648) ≤ x.toInt ∧ x.toInt ≤ 2147483647 := by
  have h1 := Int32.le_toInt x
  have h2 := Int32.toInt_lt x
  omega
theorem fm_fv1 {reg : Nat → Nat → tk_I} {t i : Nat} {x : Int64} : tk_fv ro reg ads tw t i (1, (-9223372036854775808), 9223372036854775807) (.long x) := ⟨x, rfl, by have := Int64.le_toInt x; show (-9223372036854775808 : Int) ≤ x.toInt; omega, by have := Int64.toInt_lt x; show x.toInt ≤ (9223372036854775807 : Int); omega⟩
theorem fm_fv6 {reg : Nat → Nat → tk_I} {t i : Nat} {x : Int64} : tk_fv ro reg ads tw t i (6, (-9223372036854775808), 9223372036854775807) (.long x) := ⟨x, rfl, by have := Int64.le_toInt x; show (-9223372036854775808 : Int) ≤ x.toInt; omega, by have := Int64.toInt_lt x; show x.toInt ≤ (9223372036854775807 : Int); omega⟩
/-- mods: all of at[], top and bottom are among them -/
def fm_ms (mods : List (Nat × Nat)) : Prop := (∀ r, r < 224 → (1, r) ∈ mods) ∧ (0, 3) ∈ mods ∧ (0, 4) ∈ mods
/-- what is not in mods stays -/
def fm_ffr (mods : List (Nat × Nat)) (g : Nat → Int32) (a : Nat → Nat → Int32) (b : Nat → Nat → Int64) (g' : Nat → Int32) (a' : Nat → Nat → Int32) (b' : Nat → Nat → Int64) : Prop := (∀ k, (0, k) ∈ mods ∨ g' k = g k) ∧ (∀ t, t ≠ 1 → (t, 0) ∈ mods ∨ a' t = a t) ∧ ∀ t, (t, 0) ∈ mods ∨ b' t = b t
theorem gm_cl_lt : ∀ o, o < 842 → gm_cl o < 32 := by decide +kernel
theorem gm_rg_lt {i : Nat} (h : i < 5894) : gm_rg i < 224 := by
  have := gm_cl_lt (i % 842) (Nat.mod_lt _ (by decide))
  unfold gm_rg
  omega
theorem fm_rg0 (hT : fm_Ty TY) {t i : Nat} (h : gm_rgn t = none) : tk_rg TY t i = 0 := by unfold tk_rg; rw [hT.2.2, h]
theorem fm_chgI (hT : fm_Ty TY) {t n : Nat} {kd : FieldType} {fl : tk_F} {f f' : Nat → Int32} (hn : 0 < n) (hkd : kd = .int ∨ kd = .byte) (hty : gm_ty[t]? = some (.inr (kd, n, fl))) (hr : gm_rgn t = none) (hb : ∀ i, i < n → tk_fv ro TY.2.1 ads tw t i fl (.int (f' i))) (hu : (t, 0) ∈ mods ∨ f' = f) : fm_chg2 TY ro ads tw mods ps t (.inr (kd, n, .inl f)) (.inr (kd, n, .inl f')) := by
  rcases hu with hu | rfl
  · exact Or.inr (Or.inl ⟨kd, n, f, f', fl, hkd, rfl, rfl, by rw [hT.1]; exact hty, hb, hn, fun i _ => by rw [fm_rg0 hT hr]; exact hu⟩)
  · exact Or.inl rfl
theorem fm_chgL (hT : fm_Ty TY) {t n : Nat} {fl : tk_F} {f f' : Nat → Int64} (hn : 0 < n) (hty : gm_ty[t]? = some (.inr (.long, n, fl))) (hr : gm_rgn t = none) (hb : ∀ i, i < n → tk_fv ro TY.2.1 ads tw t i fl (.long (f' i))) (hu : (t, 0) ∈ mods ∨ f' = f) : fm_chg2 TY ro ads tw mods ps t (.inr (.long, n, .inr (.inl f))) (.inr (.long, n, .inr (.inl f'))) := by
  rcases hu with hu | rfl
  · exact Or.inr (Or.inr (Or.inl ⟨n, f, f', fl, rfl, rfl, by rw [hT.1]; exact hty, hb, hn, fun i _ => by rw [fm_rg0 hT hr]; exact hu⟩))
  · exact Or.inl rfl
set_option maxHeartbeats 4000000 in
theorem fm_chgO (hT : fm_Ty TY) (hI : fm_I g' a') (hM : fm_ms mods) (f0 : ∀ k, (0, k) ∈ mods ∨ g' k = g k) : fm_chg2 TY ro ads tw mods ps 0 (.inl (12, fm_o g tp bt)) (.inl (12, fm_o g' tp' bt')) := by
  have e0 : ∀ i, tk_rg TY 0 i = i := fun i => by unfold tk_rg; rw [hT.2.2]; rfl
  refine Or.inr (Or.inr (Or.inr ⟨12, _, _, gm_fl, rfl, rfl, by rw [hT.1]; rfl, rfl, fun i f v hf hv h2 => ?_, fun i f hf h2 => ?_, fun i hn => ?_, 3, by rw [e0]; exact hM.2.1⟩))
  · match i, hf, hv with
    | 0, hf, hv => cases hf; exact absurd rfl h2
    | 1, hf, hv => cases hf; exact absurd rfl h2
    | 2, hf, hv => cases hf; cases hv; exact fm_fv0 (hI.1 (2, 0, 9) (by decide))
    | 3, hf, hv => cases hf; cases hv; exact fm_fv1
    | 4, hf, hv => cases hf; cases hv; exact fm_fv1
    | 5, hf, hv => cases hf; exact absurd rfl h2
    | 6, hf, hv => cases hf; exact absurd rfl h2
    | 7, hf, hv => cases hf; exact absurd rfl h2
    | 8, hf, hv => cases hf; exact absurd rfl h2
    | 9, hf, hv => cases hf; exact absurd rfl h2
    | 10, hf, hv => cases hf; cases hv; exact fm_fv0 (hI.1 (10, 0, 900) (by decide))
    | 11, hf, hv => cases hf; cases hv; exact fm_fv0 (hI.1 (11, 0, 900) (by decide))
    | 12, hf, hv => cases hf; cases hv; exact fm_fv0 (hI.1 (12, 0, 4) (by decide))
    | 13, hf, hv => cases hf; cases hv; exact fm_fv0 (hI.1 (13, 0, 900) (by decide))
    | 14, hf, hv => cases hf; cases hv; exact fm_fv0 (hI.1 (14, 0, 900) (by decide))
    | 15, hf, hv => cases hf; cases hv; exact fm_fv0 (hI.1 (15, (-2147483648), 1000000) (by decide))
    | 16, hf, hv => cases hf; cases hv; exact fm_fv0 (hI.1 (16, (-1), 7) (by decide))
    | 17, hf, hv => cases hf; cases hv; exact fm_fv0 (hI.1 (17, (-1), 900) (by decide))
    | 18, hf, hv => cases hf; cases hv; exact fm_fv0 (hI.1 (18, 0, 7) (by decide))
    | 19, hf, hv => cases hf; cases hv; exact fm_fv0 (hI.1 (19, 0, 0) (by decide))
    | 20, hf, hv => cases hf; cases hv; exact fm_fv0 (hI.1 (20, (-2147483648), 2147483647) (by decide))
    | 21, hf, hv => cases hf; exact absurd rfl h2
    | 22, hf, hv => cases hf; cases hv; exact fm_fv0 (hI.1 (22, 0, 3) (by decide))
    | 23, hf, hv => cases hf; cases hv; exact fm_fv0 (hI.1 (23, 0, 30) (by decide))
    | 24, hf, hv => cases hf; exact absurd rfl h2
    | 25, hf, hv => cases hf; cases hv; exact fm_fv0 (hI.1 (25, (-2147483648), 2147483647) (by decide))
    | 26, hf, hv => cases hf; exact absurd rfl h2
    | 27, hf, hv => cases hf; exact absurd rfl h2
    | 28, hf, hv => cases hf; exact absurd rfl h2
    | 29, hf, hv => cases hf; exact absurd rfl h2
    | 30, hf, hv => cases hf; cases hv; exact fm_fv0 (hI.1 (30, 0, 4) (by decide))
    | 31, hf, hv => cases hf; exact absurd rfl h2
    | 32, hf, hv => cases hf; exact absurd rfl h2
    | 33, hf, hv => cases hf; exact absurd rfl h2
    | 34, hf, hv => cases hf; exact absurd rfl h2
    | 35, hf, hv => cases hf; exact absurd rfl h2
    | 36, hf, hv => cases hf; cases hv; exact fm_fv0 (hI.1 (36, (-2147483648), 2147483647) (by decide))
    | 37, hf, hv => cases hf; cases hv; exact fm_fv0 (hI.1 (37, 0, 300) (by decide))
    | 38, hf, hv => cases hf; exact absurd rfl h2
    | 39, hf, hv => cases hf; exact absurd rfl h2
    | 40, hf, hv => cases hf; exact absurd rfl h2
    | 41, hf, hv => cases hf; cases hv; exact fm_fv0 (hI.1 (41, 0, 1) (by decide))
    | 42, hf, hv => cases hf; cases hv; exact fm_fv0 (hI.1 (42, 0, 3) (by decide))
    | k + 43, hf, hv => cases hf
  · match i, hf with
    | 0, hf => rfl
    | 1, hf => rfl
    | 2, hf => cases hf; cases h2
    | 3, hf => cases hf; cases h2
    | 4, hf => cases hf; cases h2
    | 5, hf => rfl
    | 6, hf => rfl
    | 7, hf => rfl
    | 8, hf => rfl
    | 9, hf => rfl
    | 10, hf => cases hf; cases h2
    | 11, hf => cases hf; cases h2
    | 12, hf => cases hf; cases h2
    | 13, hf => cases hf; cases h2
    | 14, hf => cases hf; cases h2
    | 15, hf => cases hf; cases h2
    | 16, hf => cases hf; cases h2
    | 17, hf => cases hf; cases h2
    | 18, hf => cases hf; cases h2
    | 19, hf => cases hf; cases h2
    | 20, hf => cases hf; cases h2
    | 21, hf => rfl
    | 22, hf => cases hf; cases h2
    | 23, hf => cases hf; cases h2
    | 24, hf => rfl
    | 25, hf => cases hf; cases h2
    | 26, hf => rfl
    | 27, hf => rfl
    | 28, hf => rfl
    | 29, hf => rfl
    | 30, hf => cases hf; cases h2
    | 31, hf => rfl
    | 32, hf => rfl
    | 33, hf => rfl
    | 34, hf => rfl
    | 35, hf => rfl
    | 36, hf => cases hf; cases h2
    | 37, hf => cases hf; cases h2
    | 38, hf => rfl
    | 39, hf => rfl
    | 40, hf => rfl
    | 41, hf => cases hf; cases h2
    | 42, hf => cases hf; cases h2
    | k + 43, hf => cases hf
  · rw [e0] at hn
    match i, hn with
    | 0, hn => rfl
    | 1, hn => rfl
    | 2, hn =>
      show some (Value.int (g' 2)) = some (.int (g 2))
      rw [(f0 2).resolve_left hn]
    | 3, hn => exact absurd hM.2.1 hn
    | 4, hn => exact absurd hM.2.2 hn
    | 5, hn => rfl
    | 6, hn => rfl
    | 7, hn => rfl
    | 8, hn => rfl
    | 9, hn => rfl
    | 10, hn =>
      show some (Value.int (g' 10)) = some (.int (g 10))
      rw [(f0 10).resolve_left hn]
    | 11, hn =>
      show some (Value.int (g' 11)) = some (.int (g 11))
      rw [(f0 11).resolve_left hn]
    | 12, hn =>
      show some (Value.int (g' 12)) = some (.int (g 12))
      rw [(f0 12).resolve_left hn]
    | 13, hn =>
      show some (Value.int (g' 13)) = some (.int (g 13))
      rw [(f0 13).resolve_left hn]
    | 14, hn =>
      show some (Value.int (g' 14)) = some (.int (g 14))
      rw [(f0 14).resolve_left hn]
    | 15, hn =>
      show some (Value.int (g' 15)) = some (.int (g 15))
      rw [(f0 15).resolve_left hn]
    | 16, hn =>
      show some (Value.int (g' 16)) = some (.int (g 16))
      rw [(f0 16).resolve_left hn]
    | 17, hn =>
      show some (Value.int (g' 17)) = some (.int (g 17))
      rw [(f0 17).resolve_left hn]
    | 18, hn =>
      show some (Value.int (g' 18)) = some (.int (g 18))
      rw [(f0 18).resolve_left hn]
    | 19, hn =>
      show some (Value.int (g' 19)) = some (.int (g 19))
      rw [(f0 19).resolve_left hn]
    | 20, hn =>
      show some (Value.int (g' 20)) = some (.int (g 20))
      rw [(f0 20).resolve_left hn]
    | 21, hn => rfl
    | 22, hn =>
      show some (Value.int (g' 22)) = some (.int (g 22))
      rw [(f0 22).resolve_left hn]
    | 23, hn =>
      show some (Value.int (g' 23)) = some (.int (g 23))
      rw [(f0 23).resolve_left hn]
    | 24, hn => rfl
    | 25, hn =>
      show some (Value.int (g' 25)) = some (.int (g 25))
      rw [(f0 25).resolve_left hn]
    | 26, hn => rfl
    | 27, hn => rfl
    | 28, hn => rfl
    | 29, hn => rfl
    | 30, hn =>
      show some (Value.int (g' 30)) = some (.int (g 30))
      rw [(f0 30).resolve_left hn]
    | 31, hn => rfl
    | 32, hn => rfl
    | 33, hn => rfl
    | 34, hn => rfl
    | 35, hn => rfl
    | 36, hn =>
      show some (Value.int (g' 36)) = some (.int (g 36))
      rw [(f0 36).resolve_left hn]
    | 37, hn =>
      show some (Value.int (g' 37)) = some (.int (g 37))
      rw [(f0 37).resolve_left hn]
    | 38, hn => rfl
    | 39, hn => rfl
    | 40, hn => rfl
    | 41, hn =>
      show some (Value.int (g' 41)) = some (.int (g 41))
      rw [(f0 41).resolve_left hn]
    | 42, hn =>
      show some (Value.int (g' 42)) = some (.int (g 42))
      rw [(f0 42).resolve_left hn]
    | k + 43, hn => rfl
set_option maxHeartbeats 4000000 in
theorem fm_chgA (hT : fm_Ty TY) (hI : fm_I g' a') (hM : fm_ms mods) (hF : fm_ffr mods g a b g' a' b') : ∀ (t : Nat) (e e' : fx_E), (fm g tp bt a b)[t]? = some e → (fm g' tp' bt' a' b')[t]? = some e' → fm_chg2 TY ro ads tw mods ps t e e' := by
  obtain ⟨f0, fa, fb⟩ := hF
  intro t e e' h h'
  match t, h, h' with
  | 0, h, h' => cases h; cases h'; exact fm_chgO hT hI hM f0
  | 1, h, h' =>
    cases h
    cases h'
    refine Or.inr (Or.inl ⟨.int, 5894, _, _, (3, 1, 0), Or.inl rfl, rfl, rfl, by rw [hT.1]; rfl, fun i hi => ?_, by decide, fun i hi => ?_⟩)
    · show ∃ x : Int32, Value.int (a' 1 i) = .int x ∧ (TY.2.1 1 i).1 ≤ x.toInt ∧ x.toInt ≤ (TY.2.1 1 i).2
      refine ⟨a' 1 i, rfl, ?_⟩
      rw [hT.2.1]
      exact hI.2.1.1 i hi
    · rw [show tk_rg TY 1 i = gm_rg i from by unfold tk_rg; rw [hT.2.2]; rfl]
      exact hM.1 _ (gm_rg_lt hi)
  | 2, h, h' => cases h; cases h'; exact fm_chgL hT (by decide) rfl rfl (fun i hi => fm_fv1) (fb 2)
  | 3, h, h' => cases h; cases h'; exact fm_chgI hT (by decide) (Or.inl rfl) rfl rfl (fun i hi => fm_fv0 (hI.2.2 (3, 4, 0, 3) (by decide) i hi)) (fa 3 (by decide))
  | 4, h, h' => cases h; cases h'; exact fm_chgI hT (by decide) (Or.inl rfl) rfl rfl (fun i hi => fm_fv0 (hI.2.2 (4, 4, (-1), 60) (by decide) i hi)) (fa 4 (by decide))
  | 5, h, h' => cases h; cases h'; exact fm_chgL hT (by decide) rfl rfl (fun i hi => fm_fv6) (fb 5)
  | 6, h, h' => cases h; cases h'; exact fm_chgI hT (by decide) (Or.inr rfl) rfl rfl (fun i hi => fm_fv0 (hI.2.2 (6, 900, (-128), 127) (by decide) i hi)) (fa 6 (by decide))
  | 7, h, h' => cases h; cases h'; exact fm_chgI hT (by decide) (Or.inr rfl) rfl rfl (fun i hi => fm_fv0 (hI.2.2 (7, 900, (-128), 127) (by decide) i hi)) (fa 7 (by decide))
  | 8, h, h' => cases h; cases h'; exact fm_chgI hT (by decide) (Or.inl rfl) rfl rfl (fun i hi => fm_fv0 (hI.2.2 (8, 3, 0, 59) (by decide) i hi)) (fa 8 (by decide))
  | 9, h, h' =>
    cases h
    cases h'
    refine fm_chgI hT (by decide) (Or.inl rfl) rfl rfl (fun i hi => ?_) (fa 9 (by decide))
    show ∃ x : Int32, Value.int (a' 9 i) = .int x ∧ (TY.2.1 9 i).1 ≤ x.toInt ∧ x.toInt ≤ (TY.2.1 9 i).2
    refine ⟨a' 9 i, rfl, ?_⟩
    rw [hT.2.1]
    exact hI.2.1.2.2 i hi
  | 10, h, h' => cases h; cases h'; exact fm_chgI hT (by decide) (Or.inl rfl) rfl rfl (fun i hi => fm_fv0 (fm_i32 _)) (fa 10 (by decide))
  | 11, h, h' => cases h; cases h'; exact fm_chgI hT (by decide) (Or.inl rfl) rfl rfl (fun i hi => fm_fv0 (fm_i32 _)) (fa 11 (by decide))
  | 12, h, h' => cases h; cases h'; exact fm_chgI hT (by decide) (Or.inl rfl) rfl rfl (fun i hi => fm_fv0 (fm_i32 _)) (fa 12 (by decide))
  | 13, h, h' => cases h; cases h'; exact fm_chgI hT (by decide) (Or.inl rfl) rfl rfl (fun i hi => fm_fv0 (fm_i32 _)) (fa 13 (by decide))
  | 14, h, h' => cases h; cases h'; exact fm_chgI hT (by decide) (Or.inl rfl) rfl rfl (fun i hi => fm_fv0 (hI.2.2 (14, 256, 0, 1000000) (by decide) i hi)) (fa 14 (by decide))
  | 15, h, h' => cases h; cases h'; exact fm_chgI hT (by decide) (Or.inl rfl) rfl rfl (fun i hi => fm_fv0 (hI.2.2 (15, 427, 0, 1000000) (by decide) i hi)) (fa 15 (by decide))
  | 16, h, h' => cases h; cases h'; exact fm_chgI hT (by decide) (Or.inl rfl) rfl rfl (fun i hi => fm_fv0 (fm_i32 _)) (fa 16 (by decide))
  | 17, h, h' => cases h; cases h'; exact fm_chgL hT (by decide) rfl rfl (fun i hi => fm_fv6) (fb 17)
  | 18, h, h' => cases h; cases h'; exact fm_chgL hT (by decide) rfl rfl (fun i hi => fm_fv6) (fb 18)
  | 19, h, h' => cases h; cases h'; exact fm_chgI hT (by decide) (Or.inl rfl) rfl rfl (fun i hi => fm_fv0 (fm_i32 _)) (fa 19 (by decide))
  | 20, h, h' => cases h; cases h'; exact fm_chgI hT (by decide) (Or.inl rfl) rfl rfl (fun i hi => fm_fv0 (fm_i32 _)) (fa 20 (by decide))
  | 21, h, h' => cases h; cases h'; exact fm_chgI hT (by decide) (Or.inl rfl) rfl rfl (fun i hi => fm_fv0 (fm_i32 _)) (fa 21 (by decide))
  | n + 22, h, h' => cases h
end FMI
theorem fm_ints {vals : List Int} {rads : List Nat} : ∀ (rs : List tk_V) (rest : List Value), (∀ v ∈ rs, v.1 = 0) → rk_A2 (tk_g vals rads) rs rest → ∃ xs : List Int32, xs.length = rs.length ∧ rest = xs.map Value.int := by
  intro rs
  induction rs with
  | nil =>
    intro rest _ h
    have := h.nil
    subst this
    exact ⟨[], rfl, rfl⟩
  | cons v rs ih =>
    intro rest hk h
    obtain ⟨x, r1, rfl, g1, h1⟩ := h.cons
    obtain ⟨xs, e1, e2⟩ := ih r1 (fun v hv => hk v (List.mem_cons_of_mem _ hv)) h1
    obtain ⟨z, rfl, -⟩ := tk_g0 g1 (hk v List.mem_cons_self)
    exact ⟨z :: xs, by rw [List.length_cons, List.length_cons, e1], by rw [e2]; rfl⟩
def gn_i : tk_I := ((-2147483648), 2147483647)
/-- a public method of the model, f, of n ints -/
def gn_K (f n : Nat) (mods : List (Nat × Nat)) : tk_K := (f, (2, 0, 0, 0) :: (List.range n).map (fun i => (0, i + 1, 1, 0)), (List.replicate n gn_i, []), [0], [], [(some (0, n + 1, 1, 0), (List.replicate n gn_i ++ [gn_i], []), [0], [])], mods)
theorem fm_pub {l : Launch} {D : va_G} {xt : tk_XT} {ro : Nat → Nat → Int → Prop} {ads tw : List Nat} (hst : ∀ (Ad : Nat → Prop) (U : State) (H : Heap), xt Ad U H → ∃ pl v tx, sk_X pl v Ad U H ∧ vk_R "GooseIceModel" 189 tx pl U) {TY : tk_TT} (hT : fm_Ty TY) {k f n : Nat} {mods : List (Nat × Nat)} (hM : fm_ms mods)
    (hfr : ∀ (g : Nat → Int32) (tp bt : Int64) (a : Nat → Nat → Int32) (b : Nat → Nat → Int64) (xs : List Int32), xs.length = n → fm_I g a → ∃ (v : Int32) (g' : Nat → Int32) (tp' bt' : Int64) (a' : Nat → Nat → Int32) (b' : Nat → Nat → Int64), fr_T k f (.ref 0 :: xs.map Value.int) (fm g tp bt a b) (some (.int v)) (fm g' tp' bt' a' b') ∧ fm_I g' a' ∧ fm_ffr mods g a b g' a' b') : tk_KS l D gk_cl gk_tbl gk_xw xt gk_MN gk_P TY ro (gn_X tw) ads tw (k + 4) (gn_K f n mods) := by
  refine tk_KS2_1 (fm_KS3 (k := k) hst hT ?_ (fun U vals rest ws h0 ps σ g tp bt a b hH hrest hty hfst hD hfa hat hX => ?_))
  · rw [List.all_eq_true]
    intro v hv
    obtain ⟨i, -, rfl⟩ := List.mem_map.mp hv
    rfl
  obtain ⟨xs, hxl, rfl⟩ := fm_ints _ rest (fun v hv => by obtain ⟨i, -, rfl⟩ := List.mem_map.mp hv; rfl) hrest
  rw [List.length_map, List.length_range] at hxl
  obtain ⟨v, g', tp', bt', a', b', h1, h2, h3⟩ := hfr g tp bt a b xs hxl (fm_I_of hT hty hat hX)
  refine ⟨_, _, h1, fm_chgA hT h2 hM h3, fm_X2 hat hX h2.2.1.2.1 (fm_B_60 h2.2.1.1), _, List.mem_cons_self, vals ++ [v.toInt], ⟨_, rfl⟩, ⟨hH.1.push (fm_i32 v), fun q hq => absurd hq List.not_mem_nil⟩, rfl, fun q hq => absurd hq List.not_mem_nil, .int v, ⟨v, rfl, ?_⟩, rfl⟩
  have hl : vals.length = n := by
    have := hH.1.len
    rw [List.length_replicate] at this
    exact this.symm
  unfold tk_num
  dsimp only
  rw [List.getElem?_append_right (by omega), hl, Nat.sub_self]
  show some (1 * v.toInt + 0) = _
  congr 1
  omega
def gn_Mt : List (Nat × Nat) := [(0, 2), (0, 3), (0, 4), (0, 11), (0, 12), (0, 13), (0, 14), (0, 15), (0, 16), (0, 17), (0, 18), (0, 19), (0, 20), (0, 22), (0, 23), (0, 25), (0, 30), (0, 36), (0, 37), (0, 41), (2, 0), (7, 0), (8, 0), (9, 0), (10, 0), (11, 0), (12, 0), (13, 0), (14, 0), (15, 0), (16, 0), (17, 0), (18, 0), (19, 0), (20, 0), (21, 0)]
def gn_M0 : List (Nat × Nat) := (List.range 224).map (fun r => (1, r)) ++ gn_Mt
def gn_M1 : List (Nat × Nat) := (List.range 224).map (fun r => (1, r)) ++ ((0, 10) :: gn_Mt)
def gn_M2 : List (Nat × Nat) := (List.range 224).map (fun r => (1, r)) ++ ((0, 42) :: gn_Mt)
theorem gn_Mr (m : List (Nat × Nat)) : ∀ r, r < 224 → (1, r) ∈ (List.range 224).map (fun r => (1, r)) ++ m := fun r h => List.mem_append_left _ (List.mem_map.mpr ⟨r, List.mem_range.mpr h, rfl⟩)
theorem gn_M0_ms : fm_ms gn_M0 := ⟨gn_Mr _, List.mem_append_right _ (by decide), List.mem_append_right _ (by decide)⟩
theorem gn_M1_ms : fm_ms gn_M1 := ⟨gn_Mr _, List.mem_append_right _ (by decide), List.mem_append_right _ (by decide)⟩
theorem gn_M2_ms : fm_ms gn_M2 := ⟨gn_Mr _, List.mem_append_right _ (by decide), List.mem_append_right _ (by decide)⟩
theorem fm_ffr_rf {mods : List (Nat × Nat)} {g : Nat → Int32} {a : Nat → Nat → Int32} {b : Nat → Nat → Int64} : fm_ffr mods g a b g a b := ⟨fun _ => Or.inr rfl, fun _ _ => Or.inr rfl, fun _ => Or.inr rfl⟩
end MH26_0
section MH26_1
/-! ===== the model: the public calls that were done by fx, as tk contracts ===== -/
section FMP
variable {g g' : Nat → Int32} {tp bt tp' bt' : Int64} {a a' : Nat → Nat → Int32} {b b' : Nat → Nat → Int64}
theorem fm_xsS {xs : List Int32} {n : Nat} (h : xs.length = n + 1) : ∃ x ys, xs = x :: ys ∧ ys.length = n := by
  cases xs with
  | nil => exact absurd h (by rw [List.length_nil]; omega)
  | cons x ys => exact ⟨x, ys, rfl, by rw [List.length_cons] at h; omega⟩
theorem fm_I_gb (hI : fm_I g a) : fm_gb g := ⟨hI.1 (2, 0, 9) (by decide), hI.1 (30, 0, 4) (by decide), hI.1 (37, 0, 300) (by decide), (hI.1 (41, 0, 1) (by decide)).1, (hI.1 (41, 0, 1) (by decide)).2⟩
theorem gm_ar_E : ∀ q ∈ gm_ar, fm_okE q.1 = false := by decide
theorem fm_I_EG (hI : fm_I g a) (hE : fm_Ew a a') (hG : fm_G g g') : fm_I g' a' := by
  refine ⟨fun q hq => ?_, hE.1, fun q hq i hi => ?_⟩
  · skip
    simp only [gm_gf, List.mem_cons, List.not_mem_nil, or_false] at hq
    rcases hq with rfl | rfl | rfl | rfl | rfl | rfl | rfl | rfl | rfl | rfl | rfl | rfl | rfl | rfl | rfl | rfl | rfl | rfl | rfl | rfl
    · show (0 : Int) ≤ (g' 2).toInt ∧ (g' 2).toInt ≤ 9
      exact hG.2.1
    · show (0 : Int) ≤ (g' 10).toInt ∧ (g' 10).toInt ≤ 900
      rw [hG.1 10 rfl]; exact hI.1 (10, 0, 900) (by decide)
    · show (0 : Int) ≤ (g' 11).toInt ∧ (g' 11).toInt ≤ 900
      rw [hG.1 11 rfl]; exact hI.1 (11, 0, 900) (by decide)
    · show (0 : Int) ≤ (g' 12).toInt ∧ (g' 12).toInt ≤ 4
      rw [hG.1 12 rfl]; exact hI.1 (12, 0, 4) (by decide)
    · show (0 : Int) ≤ (g' 13).toInt ∧ (g' 13).toInt ≤ 900
      rw [hG.1 13 rfl]; exact hI.1 (13, 0, 900) (by decide)
    · show (0 : Int) ≤ (g' 14).toInt ∧ (g' 14).toInt ≤ 900
      rw [hG.1 14 rfl]; exact hI.1 (14, 0, 900) (by decide)
    · show ((-2147483648) : Int) ≤ (g' 15).toInt ∧ (g' 15).toInt ≤ 1000000
      rw [hG.1 15 rfl]; exact hI.1 (15, (-2147483648), 1000000) (by decide)
    · show ((-1) : Int) ≤ (g' 16).toInt ∧ (g' 16).toInt ≤ 7
      rw [hG.1 16 rfl]; exact hI.1 (16, (-1), 7) (by decide)
    · show ((-1) : Int) ≤ (g' 17).toInt ∧ (g' 17).toInt ≤ 900
      rw [hG.1 17 rfl]; exact hI.1 (17, (-1), 900) (by decide)
    · show (0 : Int) ≤ (g' 18).toInt ∧ (g' 18).toInt ≤ 7
      rw [hG.1 18 rfl]; exact hI.1 (18, 0, 7) (by decide)
    · show (0 : Int) ≤ (g' 19).toInt ∧ (g' 19).toInt ≤ 0
      rw [hG.1 19 rfl]; exact hI.1 (19, 0, 0) (by decide)
    · show ((-2147483648) : Int) ≤ (g' 20).toInt ∧ (g' 20).toInt ≤ 2147483647
      rw [hG.1 20 rfl]; exact hI.1 (20, (-2147483648), 2147483647) (by decide)
    · show (0 : Int) ≤ (g' 22).toInt ∧ (g' 22).toInt ≤ 3
      rw [hG.1 22 rfl]; exact hI.1 (22, 0, 3) (by decide)
    · show (0 : Int) ≤ (g' 23).toInt ∧ (g' 23).toInt ≤ 30
      rw [hG.1 23 rfl]; exact hI.1 (23, 0, 30) (by decide)
    · show ((-2147483648) : Int) ≤ (g' 25).toInt ∧ (g' 25).toInt ≤ 2147483647
      exact fm_i32 _
    · show (0 : Int) ≤ (g' 30).toInt ∧ (g' 30).toInt ≤ 4
      exact hG.2.2.1
    · show ((-2147483648) : Int) ≤ (g' 36).toInt ∧ (g' 36).toInt ≤ 2147483647
      exact fm_i32 _
    · show (0 : Int) ≤ (g' 37).toInt ∧ (g' 37).toInt ≤ 300
      exact hG.2.2.2.1
    · show (0 : Int) ≤ (g' 41).toInt ∧ (g' 41).toInt ≤ 1
      exact hG.2.2.2.2
    · show (0 : Int) ≤ (g' 42).toInt ∧ (g' 42).toInt ≤ 3
      rw [hG.1 42 rfl]; exact hI.1 (42, 0, 3) (by decide)
  · rw [hE.2 q.1 (gm_ar_E q hq)]; exact hI.2.2 q hq i hi
theorem gn_Mg {k : Nat} (h : fm_okg k = true) : (0, k) ∈ gn_M0 := by
  have := of_decide_eq_true h
  rcases this with rfl | rfl | rfl | rfl | rfl | rfl
  all_goals exact List.mem_append_right _ (by decide)
theorem gn_ME {t : Nat} (h : fm_okE t = true) (h1 : t ≠ 1) : (t, 0) ∈ gn_M0 := by
  have := of_decide_eq_true h
  have : t = 9 ∨ t = 10 ∨ t = 11 ∨ t = 12 ∨ t = 13 ∨ t = 16 ∨ t = 19 ∨ t = 20 ∨ t = 21 := by omega
  rcases this with rfl | rfl | rfl | rfl | rfl | rfl | rfl | rfl | rfl
  all_goals exact List.mem_append_right _ (by decide)
theorem fm_ffr_EG (hE : fm_Ew a a') (hG : fm_G g g') (hb : ∀ t, t ≠ 17 → t ≠ 18 → b' t = b t) : fm_ffr gn_M0 g a b g' a' b' := by
  refine ⟨fun k => ?_, fun t ht => ?_, fun t => ?_⟩
  · cases hk : fm_okg k
    · exact Or.inr (hG.1 k hk)
    · exact Or.inl (gn_Mg hk)
  · cases hk : fm_okE t
    · exact Or.inr (hE.2 t hk)
    · exact Or.inl (gn_ME hk ht)
  · by_cases h1 : t = 17
    · subst h1; exact Or.inl (List.mem_append_right _ (by decide))
    · by_cases h2 : t = 18
      · subst h2; exact Or.inl (List.mem_append_right _ (by decide))
      · exact Or.inr (hb t h1 h2)
/-- what a public call gives -/
def fm_PP (mods : List (Nat × Nat)) (g : Nat → Int32) (a : Nat → Nat → Int32) (b : Nat → Nat → Int64) (R : Option Value × fx_M) : Prop := ∃ (v : Int32) (g' : Nat → Int32) (tp' bt' : Int64) (a' : Nat → Nat → Int32) (b' : Nat → Nat → Int64), R = (some (.int v), fm g' tp' bt' a' b') ∧ fm_I g' a' ∧ fm_ffr mods g a b g' a' b'
theorem fm_I_PO {R : Option Value × fx_M} (hI : fm_I g a) (h : fm_PO g tp bt a b R) : fm_PP gn_M0 g a b R := by
  obtain ⟨v, g', tp', bt', a', b', hE, hG, hb, rfl⟩ := h
  exact ⟨v, g', tp', bt', a', b', rfl, fm_I_EG hI (fm_E_w hE) hG, fm_ffr_EG (fm_E_w hE) hG hb⟩
theorem fm_I_PZ {R : Option Value × fx_M} (hI : fm_I g a) (h : fm_PZ g tp bt a b R) : fm_PP gn_M0 g a b R := by
  obtain ⟨v, g', tp', bt', a', b', -, hE, hG, hb, rfl⟩ := h
  exact ⟨v, g', tp', bt', a', b', rfl, fm_I_EG hI (fm_E_w hE) hG, fm_ffr_EG (fm_E_w hE) hG hb⟩
theorem fm_I_PW {R : Option Value × fx_M} (hI : fm_I g a) (h : fm_PW g tp bt a b R) : fm_PP gn_M0 g a b R := by
  obtain ⟨v, g', tp', bt', a', b', -, hE, hG, hb, rfl⟩ := h
  exact ⟨v, g', tp', bt', a', b', rfl, fm_I_EG hI hE hG, fm_ffr_EG hE hG hb⟩
theorem fm_I_a {a a' : Nat → Nat → Int32} (hI : fm_I g a) (hB : fm_B a') (h : ∀ q ∈ gm_ar, ∀ i, i < q.2.1 → q.2.2.1 ≤ (a' q.1 i).toInt ∧ (a' q.1 i).toInt ≤ q.2.2.2) : fm_I g a' := ⟨hI.1, hB, h⟩
theorem fm_I_PT {R : Option Value × fx_M} (hI : fm_I g a) (h : fm_PT g tp bt a b R) : fm_PP gn_M0 g a b R := by
  obtain ⟨v, g', a', hS, h15, hG, rfl⟩ := h
  have hB : fm_B a' := fm_B_eq hI.2.1 (fun i => by rw [hS 1 (by decide)]) (fun i hi => by rw [hS 9 (by decide)]; exact hI.2.1.2.2 i hi)
  have hI2 : fm_I g' a := fm_I_EG hI (fm_E_w (fm_E_rf hI.2.1)) hG
  refine ⟨v, g', tp, bt, a', b, rfl, fm_I_a hI2 hB (fun q hq i hi => ?_), ⟨(fm_ffr_EG (b := b) (fm_E_w (fm_E_rf hI.2.1)) hG (fun _ _ _ => rfl)).1, fun t ht => ?_, fun t => Or.inr rfl⟩⟩
  · by_cases hq5 : q.1 = 15
    · have : q = (15, 427, 0, 1000000) := by
        have : ∀ q ∈ gm_ar, q.1 = 15 → q = (15, 427, 0, 1000000) := by decide
        exact this q hq hq5
      subst this
      exact h15 i hi
    · rw [hS q.1 hq5]; exact hI.2.2 q hq i hi
  · by_cases h5 : t = 15
    · subst h5; exact Or.inl (List.mem_append_right _ (by decide))
    · exact Or.inr (hS t h5)
theorem gm_gf_42 : ∀ q ∈ gm_gf, q.1 = 42 → q.2 = (0, 3) := by decide
theorem gm_gf_2 : ∀ q ∈ gm_gf, q.1 = 2 → q.2 = (0, 9) := by decide
theorem fm_I_u2 {x : Int32} (hI : fm_I g a) (h : 0 ≤ x.toInt ∧ x.toInt ≤ 9) : fm_I (upd g 2 x) a := by
  refine ⟨fun q hq => ?_, hI.2⟩
  by_cases h2 : q.1 = 2
  · rw [gm_gf_2 q hq h2, h2, pk_us]; exact h
  · rw [pk_un h2]; exact hI.1 q hq
theorem fm_I_u42 {x : Int32} (hI : fm_I g a) (h : 0 ≤ x.toInt ∧ x.toInt ≤ 3) : fm_I (upd g 42 x) a := by
  refine ⟨fun q hq => ?_, hI.2⟩
  by_cases h2 : q.1 = 42
  · rw [gm_gf_42 q hq h2, h2, pk_us]; exact h
  · rw [pk_un h2]; exact hI.1 q hq
theorem fm_ffr_u2 {m : List (Nat × Nat)} (hm : (0, 2) ∈ m) {x : Int32} : fm_ffr m g a b (upd g 2 x) a b := ⟨fun k => by
  by_cases h : k = 2
  · subst h; exact Or.inl hm
  · exact Or.inr (pk_un h), fun _ _ => Or.inr rfl, fun _ => Or.inr rfl⟩
theorem fm_I_MU {m n : Nat} {x : Int32} {R : Option Value × fx_M} (hI : fm_I g a) (h0 : 0 ≤ x.toInt ∧ x.toInt ≤ 9) {p q : Prop} (hn : q → n ≤ 3) (h : ∃ (v : Int32) (g' : Nat → Int32) (a' : Nat → Nat → Int32) (b' : Nat → Nat → Int64), (p ∧ v = -1 ∧ g' = upd g 2 x ∧ a' = a ∧ b' = b ∨ q ∧ v = nI n ∧ g' = upd (upd g 42 (nI n)) 2 0 ∧ fm_B a' ∧ (∀ t, t ≠ 1 → a' t = a t) ∧ ∀ t, t ≠ 2 → b' t = b t) ∧ R = (some (.int v), fm g' tp bt a' b')) : fm_PP gn_M2 g a b R := by
  obtain ⟨v, g', a', b', hh, rfl⟩ := h
  rcases hh with ⟨-, -, rfl, rfl, rfl⟩ | ⟨hq, -, rfl, hB, ha, hb⟩
  · exact ⟨v, _, tp, bt, _, _, rfl, fm_I_u2 hI h0, fm_ffr_u2 (List.mem_append_right _ (by decide))⟩
  · have hn3 := hn hq
    refine ⟨v, _, tp, bt, _, _, rfl, fm_I_u2 ⟨(fm_I_u42 hI (by rw [nI_i32 (by omega)]; omega)).1, hB, fun q hq i hi => ?_⟩ (by decide), fun k => ?_, fun t ht => Or.inr (ha t ht), fun t => ?_⟩
    · have : ∀ q ∈ gm_ar, q.1 ≠ 1 := by decide
      rw [ha q.1 (this q hq)]; exact hI.2.2 q hq i hi
    · by_cases h2 : k = 2
      · subst h2; exact Or.inl (List.mem_append_right _ (by decide))
      · by_cases h4 : k = 42
        · subst h4; exact Or.inl (List.mem_append_right _ (by decide))
        · exact Or.inr (by rw [pk_un h2, pk_un h4])
    · by_cases h2 : t = 2
      · subst h2; exact Or.inl (List.mem_append_right _ (by decide))
      · exact Or.inr (hb t h2)
theorem fm_i8b (x : Int8) : (-128) ≤ x.toInt32.toInt ∧ x.toInt32.toInt ≤ 127 := by
  have h1 := Int8.le_toInt x
  have h2 := Int8.toInt_lt x
  rw [Int8.toInt_toInt32]
  omega
set_option maxHeartbeats 4000000 in
theorem fm_I_LK (hI : fm_I g a) (h : fm_LK1 g a b g' a' b') : fm_I g' a' ∧ fm_ffr gn_M1 g a b g' a' b' := by
  obtain ⟨eo, e10, e2, ⟨S, E, F, x1, x2, x3, x4, x5, x6, ⟨t7, x7b, x7⟩, x8, x9⟩, ⟨⟨n1, f0, f1⟩, f2⟩, e16, e19, at', a7, ax, aN, sN, hL, hb⟩ := h
  obtain ⟨hBd, ⟨hS, hR⟩, h9⟩ := hI.2.1
  have bd : ∀ i, i < 5894 → fm_bd a' i := fun i hi => by
    by_cases hi0 : i < 842
    · rcases hL with hL | ⟨hL, -⟩
      · exact fm_bd_eq (hBd i hi) (hL i hi0)
      · exact hL i hi0
    · by_cases hi4 : 3368 ≤ i ∧ i < 4210
      · exact aN i hi4.1 hi4.2
      · exact fm_bd_eq (hBd i hi) (ax i hi0 hi4)
  have hXA : fm_XA a' := by
    refine ⟨fun s hs => ?_, fun s hs n hn => ?_⟩
    · by_cases h4 : s = 4
      · subst h4; exact sN
      · by_cases h00 : s = 0
        · subst h00
          rcases hL with hL | ⟨-, hL, -⟩
          · intro c d hc hd
            rw [hL _ (by omega), hL _ (by omega)]; exact hS 0 (by omega) c d hc hd
          · exact hL
        · intro c d hc hd
          rw [ax _ (by omega) (by omega), ax _ (by omega) (by omega)]; exact hS s hs c d hc hd
    · have hn6 : (n : Int) < 60 := by
        have h1 := (bd (842 * s + 6) (by omega)).2
        have hg : ∀ s, s < 4 → (gm_at (842 * s + 6)).2 ≤ 60 := by decide
        have := hg s hs
        omega
      by_cases h00 : s = 0
      · subst h00
        rcases hL with hL | ⟨-, -, -, hL⟩
        · rw [hL _ (by omega)] at hn
          rw [hL _ (by omega), hL _ (by omega)]; exact hR 0 (by omega) n hn
        · rw [show 842 * 0 + 6 = 6 from rfl, hL, show (-1 : Int32).toInt = -1 from rfl] at hn
          omega
      · rw [ax _ (by omega) (by omega)] at hn
        rw [ax _ (by omega) (by omega), ax _ (by omega) (by omega)]; exact hR s hs n hn
  refine ⟨⟨fun q hq => ?_, ⟨bd, hXA, fun i hi => by rw [at' 9 (by decide) (by decide)]; exact h9 i hi⟩, fun q hq i hi => ?_⟩, fun k => ?_, fun t ht => ?_, fun t => ?_⟩
  · skip
    simp only [gm_gf, List.mem_cons, List.not_mem_nil, or_false] at hq
    rcases hq with rfl | rfl | rfl | rfl | rfl | rfl | rfl | rfl | rfl | rfl | rfl | rfl | rfl | rfl | rfl | rfl | rfl | rfl | rfl | rfl
    · show (0 : Int) ≤ (g' 2).toInt ∧ (g' 2).toInt ≤ 9
      rcases e2 with e2 | e2 <;> rw [e2] <;> decide
    · show (0 : Int) ≤ (g' 10).toInt ∧ (g' 10).toInt ≤ 900
      rw [e10]; decide
    · show (0 : Int) ≤ (g' 11).toInt ∧ (g' 11).toInt ≤ 900
      rw [x1, nI_i32 (by omega)]; omega
    · show (0 : Int) ≤ (g' 12).toInt ∧ (g' 12).toInt ≤ 4
      rw [x7, nI_i32 (by omega)]; omega
    · show (0 : Int) ≤ (g' 13).toInt ∧ (g' 13).toInt ≤ 900
      rw [x5, nI_i32 (by omega)]; omega
    · show (0 : Int) ≤ (g' 14).toInt ∧ (g' 14).toInt ≤ 900
      rw [x3, nI_i32 (by omega)]; omega
    · show ((-2147483648) : Int) ≤ (g' 15).toInt ∧ (g' 15).toInt ≤ 1000000
      omega
    · show ((-1) : Int) ≤ (g' 16).toInt ∧ (g' 16).toInt ≤ 7
      rw [e16, f1, nI_i32 (by omega)]; omega
    · show ((-1) : Int) ≤ (g' 17).toInt ∧ (g' 17).toInt ≤ 900
      exact f2
    · show (0 : Int) ≤ (g' 18).toInt ∧ (g' 18).toInt ≤ 7
      rw [f1, nI_i32 (by omega)]; omega
    · show (0 : Int) ≤ (g' 19).toInt ∧ (g' 19).toInt ≤ 0
      rw [e19]; decide
    · show ((-2147483648) : Int) ≤ (g' 20).toInt ∧ (g' 20).toInt ≤ 2147483647
      exact fm_i32 _
    · show (0 : Int) ≤ (g' 22).toInt ∧ (g' 22).toInt ≤ 3
      rw [eo 22 (by decide) (by decide)]; exact hI.1 (22, 0, 3) (by decide)
    · show (0 : Int) ≤ (g' 23).toInt ∧ (g' 23).toInt ≤ 30
      rw [eo 23 (by decide) (by decide)]; exact hI.1 (23, 0, 30) (by decide)
    · show ((-2147483648) : Int) ≤ (g' 25).toInt ∧ (g' 25).toInt ≤ 2147483647
      rw [eo 25 (by decide) (by decide)]; exact hI.1 (25, (-2147483648), 2147483647) (by decide)
    · show (0 : Int) ≤ (g' 30).toInt ∧ (g' 30).toInt ≤ 4
      rw [eo 30 (by decide) (by decide)]; exact hI.1 (30, 0, 4) (by decide)
    · show ((-2147483648) : Int) ≤ (g' 36).toInt ∧ (g' 36).toInt ≤ 2147483647
      rw [eo 36 (by decide) (by decide)]; exact hI.1 (36, (-2147483648), 2147483647) (by decide)
    · show (0 : Int) ≤ (g' 37).toInt ∧ (g' 37).toInt ≤ 300
      rw [eo 37 (by decide) (by decide)]; exact hI.1 (37, 0, 300) (by decide)
    · show (0 : Int) ≤ (g' 41).toInt ∧ (g' 41).toInt ≤ 1
      rw [eo 41 (by decide) (by decide)]; exact hI.1 (41, 0, 1) (by decide)
    · show (0 : Int) ≤ (g' 42).toInt ∧ (g' 42).toInt ≤ 3
      rw [eo 42 (by decide) (by decide)]; exact hI.1 (42, 0, 3) (by decide)
  · skip
    simp only [gm_ar, List.mem_cons, List.not_mem_nil, or_false] at hq
    rcases hq with rfl | rfl | rfl | rfl | rfl | rfl | rfl
    · show (0 : Int) ≤ (a' 3 i).toInt ∧ (a' 3 i).toInt ≤ 3
      rw [at' 3 (by decide) (by decide)]; exact hI.2.2 (3, 4, 0, 3) (by decide) i hi
    · show ((-1) : Int) ≤ (a' 4 i).toInt ∧ (a' 4 i).toInt ≤ 60
      rw [at' 4 (by decide) (by decide)]; exact hI.2.2 (4, 4, (-1), 60) (by decide) i hi
    · show ((-128) : Int) ≤ (a' 6 i).toInt ∧ (a' 6 i).toInt ≤ 127
      rw [at' 6 (by decide) (by decide)]; exact hI.2.2 (6, 900, (-128), 127) (by decide) i hi
    · show ((-128) : Int) ≤ (a' 7 i).toInt ∧ (a' 7 i).toInt ≤ 127
      rcases a7 i with e | ⟨x, e⟩
      · rw [e]; exact hI.2.2 (7, 900, (-128), 127) (by decide) i hi
      · rw [e]; exact fm_i8b _
    · show (0 : Int) ≤ (a' 8 i).toInt ∧ (a' 8 i).toInt ≤ 59
      rw [at' 8 (by decide) (by decide)]; exact hI.2.2 (8, 3, 0, 59) (by decide) i hi
    · show (0 : Int) ≤ (a' 14 i).toInt ∧ (a' 14 i).toInt ≤ 1000000
      rw [at' 14 (by decide) (by decide)]; exact hI.2.2 (14, 256, 0, 1000000) (by decide) i hi
    · show (0 : Int) ≤ (a' 15 i).toInt ∧ (a' 15 i).toInt ≤ 1000000
      rw [at' 15 (by decide) (by decide)]; exact hI.2.2 (15, 427, 0, 1000000) (by decide) i hi
  · by_cases hk : k = 2 ∨ k = 10 ∨ k = 11 ∨ k = 12 ∨ k = 13 ∨ k = 14 ∨ k = 15 ∨ k = 16 ∨ k = 17 ∨ k = 18 ∨ k = 19 ∨ k = 20
    · refine Or.inl ?_
      rcases hk with rfl | rfl | rfl | rfl | rfl | rfl | rfl | rfl | rfl | rfl | rfl | rfl
      all_goals exact List.mem_append_right _ (by decide)
    · exact Or.inr (eo k (by omega) (by omega))
  · by_cases hk : t = 7
    · refine Or.inl ?_
      rcases hk with rfl
      all_goals exact List.mem_append_right _ (by decide)
    · exact Or.inr (at' t ht (by omega))
  · by_cases h2 : t = 2
    · subst h2; exact Or.inl (List.mem_append_right _ (by decide))
    · exact Or.inr (hb t h2)
set_option maxHeartbeats 4000000 in
theorem fm_I_TK (hI : fm_I g a) (h : fm_TK1 g a g' a') : fm_I g' a' ∧ fm_ffr gn_M1 g a b g' a' b := by
  obtain ⟨eo, e10, e2, ⟨S, E, F, x1, x2, x3, x4, x5, x6, ⟨t7, x7b, x7⟩, x8, x9⟩, ⟨⟨n1, f0, f1⟩, f2⟩, e16, e19, ⟨D, hD, eD⟩, ⟨K, hK, eK⟩, at', a7, a8, ax, aN, sN, hL⟩ := h
  obtain ⟨hBd, ⟨hS, hR⟩, h9⟩ := hI.2.1
  have bd : ∀ i, i < 5894 → fm_bd a' i := fun i hi => by
    by_cases hi0 : i = 6 ∨ 478 ≤ i ∧ i < 838
    · rcases hL with hL | ⟨hL, -⟩
      · exact fm_bd_eq (hBd i hi) (hL i hi0)
      · exact hL i hi0
    · by_cases hi4 : 3368 ≤ i ∧ i < 4210
      · exact aN i hi4.1 hi4.2
      · exact fm_bd_eq (hBd i hi) (ax i (by omega) (by omega) hi4)
  have hXA : fm_XA a' := by
    refine ⟨fun s hs => ?_, fun s hs n hn => ?_⟩
    · by_cases h4 : s = 4
      · subst h4; exact sN
      · intro c d hc hd
        have key : ∀ c, c < 10 → 842 * s + 10 + 6 * c ≠ 6 ∧ ¬ (478 ≤ 842 * s + 10 + 6 * c ∧ 842 * s + 10 + 6 * c < 838) ∧ ¬ (3368 ≤ 842 * s + 10 + 6 * c ∧ 842 * s + 10 + 6 * c < 4210) := fun c hc => by
          rcases (by omega : s = 0 ∨ 1 ≤ s) with h | h
          · subst h; omega
          · omega
        rw [ax _ (key c hc).1 (key c hc).2.1 (key c hc).2.2, ax _ (key d hd).1 (key d hd).2.1 (key d hd).2.2]; exact hS s hs c d hc hd
    · have hn6 : (n : Int) < 60 := by
        have h1 := (bd (842 * s + 6) (by omega)).2
        have hg : ∀ s, s < 4 → (gm_at (842 * s + 6)).2 ≤ 60 := by decide
        have := hg s hs
        omega
      by_cases h00 : s = 0
      · subst h00
        rcases hL with hL | ⟨-, n2, hn2, e6, hL⟩
        · rw [hL _ (by omega)] at hn
          rw [hL _ (by omega), hL _ (by omega)]; exact hR 0 (by omega) n hn
        · rw [show 842 * 0 + 6 = 6 from rfl, e6, nI_i32 (by omega)] at hn
          have := hL n (by omega)
          rw [show 842 * 0 + 478 + 6 * n = 478 + 6 * n by omega, show 842 * 0 + 479 + 6 * n = 479 + 6 * n by omega]
          exact this
      · rw [ax _ (by omega) (by omega) (by omega)] at hn
        rw [ax _ (by omega) (by omega) (by omega), ax _ (by omega) (by omega) (by omega)]; exact hR s hs n hn
  refine ⟨⟨fun q hq => ?_, ⟨bd, hXA, fun i hi => by rw [at' 9 (by decide) (by decide) (by decide)]; exact h9 i hi⟩, fun q hq i hi => ?_⟩, fun k => ?_, fun t ht => ?_, fun t => Or.inr rfl⟩
  · skip
    simp only [gm_gf, List.mem_cons, List.not_mem_nil, or_false] at hq
    rcases hq with rfl | rfl | rfl | rfl | rfl | rfl | rfl | rfl | rfl | rfl | rfl | rfl | rfl | rfl | rfl | rfl | rfl | rfl | rfl | rfl
    · show (0 : Int) ≤ (g' 2).toInt ∧ (g' 2).toInt ≤ 9
      rcases e2 with e2 | e2 <;> rw [e2] <;> decide
    · show (0 : Int) ≤ (g' 10).toInt ∧ (g' 10).toInt ≤ 900
      rw [e10]; decide
    · show (0 : Int) ≤ (g' 11).toInt ∧ (g' 11).toInt ≤ 900
      rw [x1, nI_i32 (by omega)]; omega
    · show (0 : Int) ≤ (g' 12).toInt ∧ (g' 12).toInt ≤ 4
      rw [x7, nI_i32 (by omega)]; omega
    · show (0 : Int) ≤ (g' 13).toInt ∧ (g' 13).toInt ≤ 900
      rw [x5, nI_i32 (by omega)]; omega
    · show (0 : Int) ≤ (g' 14).toInt ∧ (g' 14).toInt ≤ 900
      rw [x3, nI_i32 (by omega)]; omega
    · show ((-2147483648) : Int) ≤ (g' 15).toInt ∧ (g' 15).toInt ≤ 1000000
      omega
    · show ((-1) : Int) ≤ (g' 16).toInt ∧ (g' 16).toInt ≤ 7
      rw [e16, f1, nI_i32 (by omega)]; omega
    · show ((-1) : Int) ≤ (g' 17).toInt ∧ (g' 17).toInt ≤ 900
      exact f2
    · show (0 : Int) ≤ (g' 18).toInt ∧ (g' 18).toInt ≤ 7
      rw [f1, nI_i32 (by omega)]; omega
    · show (0 : Int) ≤ (g' 19).toInt ∧ (g' 19).toInt ≤ 0
      rw [e19]; decide
    · show ((-2147483648) : Int) ≤ (g' 20).toInt ∧ (g' 20).toInt ≤ 2147483647
      exact fm_i32 _
    · show (0 : Int) ≤ (g' 22).toInt ∧ (g' 22).toInt ≤ 3
      rw [eD, nI_i32 (by omega)]; omega
    · show (0 : Int) ≤ (g' 23).toInt ∧ (g' 23).toInt ≤ 30
      rw [eK, nI_i32 (by omega)]; omega
    · show ((-2147483648) : Int) ≤ (g' 25).toInt ∧ (g' 25).toInt ≤ 2147483647
      rw [eo 25 (by decide) (by decide) (by decide) (by decide)]; exact hI.1 (25, (-2147483648), 2147483647) (by decide)
    · show (0 : Int) ≤ (g' 30).toInt ∧ (g' 30).toInt ≤ 4
      rw [eo 30 (by decide) (by decide) (by decide) (by decide)]; exact hI.1 (30, 0, 4) (by decide)
    · show ((-2147483648) : Int) ≤ (g' 36).toInt ∧ (g' 36).toInt ≤ 2147483647
      rw [eo 36 (by decide) (by decide) (by decide) (by decide)]; exact hI.1 (36, (-2147483648), 2147483647) (by decide)
    · show (0 : Int) ≤ (g' 37).toInt ∧ (g' 37).toInt ≤ 300
      rw [eo 37 (by decide) (by decide) (by decide) (by decide)]; exact hI.1 (37, 0, 300) (by decide)
    · show (0 : Int) ≤ (g' 41).toInt ∧ (g' 41).toInt ≤ 1
      rw [eo 41 (by decide) (by decide) (by decide) (by decide)]; exact hI.1 (41, 0, 1) (by decide)
    · show (0 : Int) ≤ (g' 42).toInt ∧ (g' 42).toInt ≤ 3
      rw [eo 42 (by decide) (by decide) (by decide) (by decide)]; exact hI.1 (42, 0, 3) (by decide)
  · skip
    simp only [gm_ar, List.mem_cons, List.not_mem_nil, or_false] at hq
    rcases hq with rfl | rfl | rfl | rfl | rfl | rfl | rfl
    · show (0 : Int) ≤ (a' 3 i).toInt ∧ (a' 3 i).toInt ≤ 3
      rw [at' 3 (by decide) (by decide) (by decide)]; exact hI.2.2 (3, 4, 0, 3) (by decide) i hi
    · show ((-1) : Int) ≤ (a' 4 i).toInt ∧ (a' 4 i).toInt ≤ 60
      rw [at' 4 (by decide) (by decide) (by decide)]; exact hI.2.2 (4, 4, (-1), 60) (by decide) i hi
    · show ((-128) : Int) ≤ (a' 6 i).toInt ∧ (a' 6 i).toInt ≤ 127
      rw [at' 6 (by decide) (by decide) (by decide)]; exact hI.2.2 (6, 900, (-128), 127) (by decide) i hi
    · show ((-128) : Int) ≤ (a' 7 i).toInt ∧ (a' 7 i).toInt ≤ 127
      rcases a7 i with e | ⟨x, e⟩
      · rw [e]; exact hI.2.2 (7, 900, (-128), 127) (by decide) i hi
      · rw [e]; exact fm_i8b _
    · show (0 : Int) ≤ (a' 8 i).toInt ∧ (a' 8 i).toInt ≤ 59
      obtain ⟨z, hz, e⟩ := a8 i hi
      rw [e, nI_i32 (by omega)]; omega
    · show (0 : Int) ≤ (a' 14 i).toInt ∧ (a' 14 i).toInt ≤ 1000000
      rw [at' 14 (by decide) (by decide) (by decide)]; exact hI.2.2 (14, 256, 0, 1000000) (by decide) i hi
    · show (0 : Int) ≤ (a' 15 i).toInt ∧ (a' 15 i).toInt ≤ 1000000
      rw [at' 15 (by decide) (by decide) (by decide)]; exact hI.2.2 (15, 427, 0, 1000000) (by decide) i hi
  · by_cases hk : k = 2 ∨ k = 10 ∨ k = 11 ∨ k = 12 ∨ k = 13 ∨ k = 14 ∨ k = 15 ∨ k = 16 ∨ k = 17 ∨ k = 18 ∨ k = 19 ∨ k = 22 ∨ k = 23
    · refine Or.inl ?_
      rcases hk with rfl | rfl | rfl | rfl | rfl | rfl | rfl | rfl | rfl | rfl | rfl | rfl | rfl
      all_goals exact List.mem_append_right _ (by decide)
    · exact Or.inr (eo k (by omega) (by omega) (by omega) (by omega))
  · by_cases hk : t = 7 ∨ t = 8
    · refine Or.inl ?_
      rcases hk with rfl | rfl
      all_goals exact List.mem_append_right _ (by decide)
    · exact Or.inr (at' t ht (by omega) (by omega))
theorem fm_I_FL {n : Int32} {R : Option Value × fx_M} (hI : fm_I g a) (h : fm_FL g tp bt a b n R) : fm_PP gn_M1 g a b R := by
  obtain ⟨v, g', a', b', rfl, hh⟩ := h
  rcases hh with ⟨-, -, rfl, rfl, rfl⟩ | ⟨-, h⟩
  · exact ⟨v, _, tp, bt, _, _, rfl, fm_I_u2 hI (by decide), fm_ffr_u2 (List.mem_append_right _ (by decide))⟩
  · exact ⟨v, _, tp, bt, _, _, rfl, fm_I_LK hI h⟩
theorem fm_I_FTA {n : Int32} {R : Option Value × fx_M} (hI : fm_I g a) (h : fm_FTA g tp bt a b n R) : fm_PP gn_M1 g a b R := by
  obtain ⟨v, g', a', rfl, hh⟩ := h
  rcases hh with ⟨-, -, rfl, rfl⟩ | ⟨-, h⟩
  · exact ⟨v, _, tp, bt, _, _, rfl, fm_I_u2 hI (by decide), fm_ffr_u2 (List.mem_append_right _ (by decide))⟩
  · exact ⟨v, _, tp, bt, _, _, rfl, fm_I_TK hI h⟩
theorem fm_I_10 (hI : fm_I g a) : ∃ T, T ≤ 900 ∧ g 10 = nI T := by
  obtain ⟨h1, h2⟩ := hI.1 (10, 0, 900) (by decide)
  exact nI_bd h1 h2
theorem fm_I_42 (hI : fm_I g a) : ∃ T, T ≤ 3 ∧ g 42 = nI T := by
  obtain ⟨h1, h2⟩ := hI.1 (42, 0, 3) (by decide)
  exact nI_bd h1 h2
theorem fm_I_TH (hI : fm_I g a) : fm_TH g a := by
  obtain ⟨C, hC, eC⟩ := fm_B_0 hI.2.1 (i := 0) (n := 10) (by decide) rfl
  obtain ⟨W, hW, eW⟩ := fm_B_0 hI.2.1 (i := 1) (n := 8) (by decide) rfl
  refine ⟨fm_I_10 hI, ⟨C, W, eC, hC, eW, hW⟩, fun i h1 h2 => hI.2.1.1 i (by omega), hI.2.1.2.1.1 4 (by decide), fun d hd => ?_⟩
  obtain ⟨h1, h2⟩ := hI.2.2 (8, 3, 0, 59) (by decide) d hd
  exact nI_bd h1 h2
end FMP
section GP
variable {l : Launch} {D : va_G} {xt : tk_XT} {TY : tk_TT} {ro : Nat → Nat → Int → Prop} {ads tw : List Nat}
/-- step -/
theorem gp_step (hst : ∀ (Ad : Nat → Prop) (U : State) (H : Heap), xt Ad U H → ∃ pl v tx, sk_X pl v Ad U H ∧ vk_R "GooseIceModel" 189 tx pl U) (hT : fm_Ty TY) : tk_KS l D gk_cl gk_tbl gk_xw xt gk_MN gk_P TY ro (gn_X tw) ads tw 12 (gn_K 293 1 gn_M0) := by
  refine fm_pub hst hT (k := 8) gn_M0_ms (fun g tp bt a b xs hx hI => ?_)
  obtain ⟨x0, xs0, rfl, hx0⟩ := fm_xsS hx
  obtain rfl := List.length_eq_zero_iff.mp hx0
  obtain ⟨v, mem', hP, hf⟩ := fr_step (g := g) (tp := tp) (bt := bt) (a := a) (b := b) (n := x0) hI.2.1 (fm_I_gb hI)
  obtain ⟨v, g', tp', bt', a', b', e, h1, h2⟩ := fm_I_PO hI hP
  cases e
  exact ⟨v, g', tp', bt', a', b', hf, h1, h2⟩
/-- ready -/
theorem gp_ready (hst : ∀ (Ad : Nat → Prop) (U : State) (H : Heap), xt Ad U H → ∃ pl v tx, sk_X pl v Ad U H ∧ vk_R "GooseIceModel" 189 tx pl U) (hT : fm_Ty TY) : tk_KS l D gk_cl gk_tbl gk_xw xt gk_MN gk_P TY ro (gn_X tw) ads tw 13 (gn_K 328 2 gn_M0) := by
  refine fm_pub hst hT (k := 9) gn_M0_ms (fun g tp bt a b xs hx hI => ?_)
  obtain ⟨x0, xs0, rfl, hx0⟩ := fm_xsS hx
  obtain ⟨x1, xs1, rfl, hx1⟩ := fm_xsS hx0
  obtain rfl := List.length_eq_zero_iff.mp hx1
  obtain ⟨v, mem', hP, hf⟩ := fr_ready (g := g) (tp := tp) (bt := bt) (a := a) (b := b) (c := x0) (m := x1) hI.2.1 (fm_I_gb hI)
  obtain ⟨v, g', tp', bt', a', b', e, h1, h2⟩ := fm_I_PO hI hP
  cases e
  exact ⟨v, g', tp', bt', a', b', hf, h1, h2⟩
/-- holds -/
theorem gp_holds (hst : ∀ (Ad : Nat → Prop) (U : State) (H : Heap), xt Ad U H → ∃ pl v tx, sk_X pl v Ad U H ∧ vk_R "GooseIceModel" 189 tx pl U) (hT : fm_Ty TY) : tk_KS l D gk_cl gk_tbl gk_xw xt gk_MN gk_P TY ro (gn_X tw) ads tw 13 (gn_K 336 0 gn_M0) := by
  refine fm_pub hst hT (k := 9) gn_M0_ms (fun g tp bt a b xs hx hI => ?_)
  obtain rfl := List.length_eq_zero_iff.mp hx
  obtain ⟨v, mem', hP, hf⟩ := fr_holds (g := g) (tp := tp) (bt := bt) (a := a) (b := b)  hI.2.1 (fm_I_gb hI)
  obtain ⟨v, g', tp', bt', a', b', e, h1, h2⟩ := fm_I_PO hI hP
  cases e
  exact ⟨v, g', tp', bt', a', b', hf, h1, h2⟩
/-- wayAt -/
theorem gp_wayAt (hst : ∀ (Ad : Nat → Prop) (U : State) (H : Heap), xt Ad U H → ∃ pl v tx, sk_X pl v Ad U H ∧ vk_R "GooseIceModel" 189 tx pl U) (hT : fm_Ty TY) : tk_KS l D gk_cl gk_tbl gk_xw xt gk_MN gk_P TY ro (gn_X tw) ads tw 12 (gn_K 311 3 gn_M0) := by
  refine fm_pub hst hT (k := 8) gn_M0_ms (fun g tp bt a b xs hx hI => ?_)
  obtain ⟨x0, xs0, rfl, hx0⟩ := fm_xsS hx
  obtain ⟨x1, xs1, rfl, hx1⟩ := fm_xsS hx0
  obtain ⟨x2, xs2, rfl, hx2⟩ := fm_xsS hx1
  obtain rfl := List.length_eq_zero_iff.mp hx2
  obtain ⟨v, mem', hP, hf⟩ := fr_wayAtP (g := g) (tp := tp) (bt := bt) (a := a) (b := b) (w := x0) (c := x1) (k := x2) hI.2.1 (fm_I_gb hI)
  obtain ⟨v, g', tp', bt', a', b', e, h1, h2⟩ := fm_I_PO hI hP
  cases e
  exact ⟨v, g', tp', bt', a', b', hf, h1, h2⟩
/-- surestAt -/
theorem gp_surestAt (hst : ∀ (Ad : Nat → Prop) (U : State) (H : Heap), xt Ad U H → ∃ pl v tx, sk_X pl v Ad U H ∧ vk_R "GooseIceModel" 189 tx pl U) (hT : fm_Ty TY) : tk_KS l D gk_cl gk_tbl gk_xw xt gk_MN gk_P TY ro (gn_X tw) ads tw 13 (gn_K 317 3 gn_M0) := by
  refine fm_pub hst hT (k := 9) gn_M0_ms (fun g tp bt a b xs hx hI => ?_)
  obtain ⟨x0, xs0, rfl, hx0⟩ := fm_xsS hx
  obtain ⟨x1, xs1, rfl, hx1⟩ := fm_xsS hx0
  obtain ⟨x2, xs2, rfl, hx2⟩ := fm_xsS hx1
  obtain rfl := List.length_eq_zero_iff.mp hx2
  obtain ⟨v, mem', hP, hf⟩ := fr_surestAtP (g := g) (tp := tp) (bt := bt) (a := a) (b := b) (w := x0) (c := x1) (k := x2) hI.2.1 (fm_I_gb hI)
  obtain ⟨v, g', tp', bt', a', b', e, h1, h2⟩ := fm_I_PO hI hP
  cases e
  exact ⟨v, g', tp', bt', a', b', hf, h1, h2⟩
/-- send -/
theorem gp_send (hst : ∀ (Ad : Nat → Prop) (U : State) (H : Heap), xt Ad U H → ∃ pl v tx, sk_X pl v Ad U H ∧ vk_R "GooseIceModel" 189 tx pl U) (hT : fm_Ty TY) : tk_KS l D gk_cl gk_tbl gk_xw xt gk_MN gk_P TY ro (gn_X tw) ads tw 13 (gn_K 289 3 gn_M0) := by
  refine fm_pub hst hT (k := 9) gn_M0_ms (fun g tp bt a b xs hx hI => ?_)
  obtain ⟨x0, xs0, rfl, hx0⟩ := fm_xsS hx
  obtain ⟨x1, xs1, rfl, hx1⟩ := fm_xsS hx0
  obtain ⟨x2, xs2, rfl, hx2⟩ := fm_xsS hx1
  obtain rfl := List.length_eq_zero_iff.mp hx2
  obtain ⟨v, mem', hP, hf⟩ := fr_send (g := g) (tp := tp) (bt := bt) (a := a) (b := b) (w := x0) (t0 := x1) (n0 := x2) hI.2.1 (fm_I_gb hI)
  obtain ⟨v, g', tp', bt', a', b', e, h1, h2⟩ := fm_I_PO hI hP
  cases e
  exact ⟨v, g', tp', bt', a', b', hf, h1, h2⟩
/-- sendTo -/
theorem gp_sendTo (hst : ∀ (Ad : Nat → Prop) (U : State) (H : Heap), xt Ad U H → ∃ pl v tx, sk_X pl v Ad U H ∧ vk_R "GooseIceModel" 189 tx pl U) (hT : fm_Ty TY) : tk_KS l D gk_cl gk_tbl gk_xw xt gk_MN gk_P TY ro (gn_X tw) ads tw 14 (gn_K 291 2 gn_M0) := by
  refine fm_pub hst hT (k := 10) gn_M0_ms (fun g tp bt a b xs hx hI => ?_)
  obtain ⟨x0, xs0, rfl, hx0⟩ := fm_xsS hx
  obtain ⟨x1, xs1, rfl, hx1⟩ := fm_xsS hx0
  obtain rfl := List.length_eq_zero_iff.mp hx1
  obtain ⟨v, mem', hP, hf⟩ := fr_sendTo (g := g) (tp := tp) (bt := bt) (a := a) (b := b) (w := x0) (c := x1) hI.2.1 (fm_I_gb hI)
  obtain ⟨v, g', tp', bt', a', b', e, h1, h2⟩ := fm_I_PO hI hP
  cases e
  exact ⟨v, g', tp', bt', a', b', hf, h1, h2⟩
/-- far -/
theorem gp_far (hst : ∀ (Ad : Nat → Prop) (U : State) (H : Heap), xt Ad U H → ∃ pl v tx, sk_X pl v Ad U H ∧ vk_R "GooseIceModel" 189 tx pl U) (hT : fm_Ty TY) : tk_KS l D gk_cl gk_tbl gk_xw xt gk_MN gk_P TY ro (gn_X tw) ads tw 13 (gn_K 310 2 gn_M0) := by
  refine fm_pub hst hT (k := 9) gn_M0_ms (fun g tp bt a b xs hx hI => ?_)
  obtain ⟨x0, xs0, rfl, hx0⟩ := fm_xsS hx
  obtain ⟨x1, xs1, rfl, hx1⟩ := fm_xsS hx0
  obtain rfl := List.length_eq_zero_iff.mp hx1
  obtain ⟨v, mem', hP, hf⟩ := fr_far (g := g) (tp := tp) (bt := bt) (a := a) (b := b) (w := x0) (c := x1) hI.2.1 (fm_I_gb hI)
  obtain ⟨v, g', tp', bt', a', b', e, h1, h2⟩ := fm_I_PO hI hP
  cases e
  exact ⟨v, g', tp', bt', a', b', hf, h1, h2⟩
/-- surest -/
theorem gp_surest (hst : ∀ (Ad : Nat → Prop) (U : State) (H : Heap), xt Ad U H → ∃ pl v tx, sk_X pl v Ad U H ∧ vk_R "GooseIceModel" 189 tx pl U) (hT : fm_Ty TY) : tk_KS l D gk_cl gk_tbl gk_xw xt gk_MN gk_P TY ro (gn_X tw) ads tw 14 (gn_K 315 2 gn_M0) := by
  refine fm_pub hst hT (k := 10) gn_M0_ms (fun g tp bt a b xs hx hI => ?_)
  obtain ⟨x0, xs0, rfl, hx0⟩ := fm_xsS hx
  obtain ⟨x1, xs1, rfl, hx1⟩ := fm_xsS hx0
  obtain rfl := List.length_eq_zero_iff.mp hx1
  obtain ⟨v, mem', hP, hf⟩ := fr_surest (g := g) (tp := tp) (bt := bt) (a := a) (b := b) (w := x0) (c := x1) hI.2.1 (fm_I_gb hI)
  obtain ⟨v, g', tp', bt', a', b', e, h1, h2⟩ := fm_I_PO hI hP
  cases e
  exact ⟨v, g', tp', bt', a', b', hf, h1, h2⟩
/-- surestFar -/
theorem gp_surestFar (hst : ∀ (Ad : Nat → Prop) (U : State) (H : Heap), xt Ad U H → ∃ pl v tx, sk_X pl v Ad U H ∧ vk_R "GooseIceModel" 189 tx pl U) (hT : fm_Ty TY) : tk_KS l D gk_cl gk_tbl gk_xw xt gk_MN gk_P TY ro (gn_X tw) ads tw 14 (gn_K 316 2 gn_M0) := by
  refine fm_pub hst hT (k := 10) gn_M0_ms (fun g tp bt a b xs hx hI => ?_)
  obtain ⟨x0, xs0, rfl, hx0⟩ := fm_xsS hx
  obtain ⟨x1, xs1, rfl, hx1⟩ := fm_xsS hx0
  obtain rfl := List.length_eq_zero_iff.mp hx1
  obtain ⟨v, mem', hP, hf⟩ := fr_surestFar (g := g) (tp := tp) (bt := bt) (a := a) (b := b) (w := x0) (c := x1) hI.2.1 (fm_I_gb hI)
  obtain ⟨v, g', tp', bt', a', b', e, h1, h2⟩ := fm_I_PO hI hP
  cases e
  exact ⟨v, g', tp', bt', a', b', hf, h1, h2⟩
/-- reach -/
theorem gp_reach (hst : ∀ (Ad : Nat → Prop) (U : State) (H : Heap), xt Ad U H → ∃ pl v tx, sk_X pl v Ad U H ∧ vk_R "GooseIceModel" 189 tx pl U) (hT : fm_Ty TY) : tk_KS l D gk_cl gk_tbl gk_xw xt gk_MN gk_P TY ro (gn_X tw) ads tw 13 (gn_K 318 1 gn_M0) := by
  refine fm_pub hst hT (k := 9) gn_M0_ms (fun g tp bt a b xs hx hI => ?_)
  obtain ⟨x0, xs0, rfl, hx0⟩ := fm_xsS hx
  obtain rfl := List.length_eq_zero_iff.mp hx0
  obtain ⟨v, mem', hP, hf⟩ := fr_reach (g := g) (tp := tp) (bt := bt) (a := a) (b := b) (w := x0) hI.2.1 (fm_I_gb hI)
  obtain ⟨v, g', tp', bt', a', b', e, h1, h2⟩ := fm_I_PO hI hP
  cases e
  exact ⟨v, g', tp', bt', a', b', hf, h1, h2⟩
/-- cut -/
theorem gp_cut (hst : ∀ (Ad : Nat → Prop) (U : State) (H : Heap), xt Ad U H → ∃ pl v tx, sk_X pl v Ad U H ∧ vk_R "GooseIceModel" 189 tx pl U) (hT : fm_Ty TY) : tk_KS l D gk_cl gk_tbl gk_xw xt gk_MN gk_P TY ro (gn_X tw) ads tw 14 (gn_K 320 2 gn_M0) := by
  refine fm_pub hst hT (k := 10) gn_M0_ms (fun g tp bt a b xs hx hI => ?_)
  obtain ⟨x0, xs0, rfl, hx0⟩ := fm_xsS hx
  obtain ⟨x1, xs1, rfl, hx1⟩ := fm_xsS hx0
  obtain rfl := List.length_eq_zero_iff.mp hx1
  obtain ⟨v, mem', hP, hf⟩ := fr_cut (g := g) (tp := tp) (bt := bt) (a := a) (b := b) (w := x0) (c := x1) hI.2.1 (fm_I_gb hI)
  obtain ⟨v, g', tp', bt', a', b', e, h1, h2⟩ := fm_I_PO hI hP
  cases e
  exact ⟨v, g', tp', bt', a', b', hf, h1, h2⟩
/-- cutSet -/
theorem gp_cutSet (hst : ∀ (Ad : Nat → Prop) (U : State) (H : Heap), xt Ad U H → ∃ pl v tx, sk_X pl v Ad U H ∧ vk_R "GooseIceModel" 189 tx pl U) (hT : fm_Ty TY) : tk_KS l D gk_cl gk_tbl gk_xw xt gk_MN gk_P TY ro (gn_X tw) ads tw 14 (gn_K 321 2 gn_M0) := by
  refine fm_pub hst hT (k := 10) gn_M0_ms (fun g tp bt a b xs hx hI => ?_)
  obtain ⟨x0, xs0, rfl, hx0⟩ := fm_xsS hx
  obtain ⟨x1, xs1, rfl, hx1⟩ := fm_xsS hx0
  obtain rfl := List.length_eq_zero_iff.mp hx1
  obtain ⟨v, mem', hP, hf⟩ := fr_cutSet (g := g) (tp := tp) (bt := bt) (a := a) (b := b) (w := x0) (c := x1) hI.2.1 (fm_I_gb hI)
  obtain ⟨v, g', tp', bt', a', b', e, h1, h2⟩ := fm_I_PO hI hP
  cases e
  exact ⟨v, g', tp', bt', a', b', hf, h1, h2⟩
/-- hew -/
theorem gp_hew (hst : ∀ (Ad : Nat → Prop) (U : State) (H : Heap), xt Ad U H → ∃ pl v tx, sk_X pl v Ad U H ∧ vk_R "GooseIceModel" 189 tx pl U) (hT : fm_Ty TY) : tk_KS l D gk_cl gk_tbl gk_xw xt gk_MN gk_P TY ro (gn_X tw) ads tw 13 (gn_K 301 3 gn_M0) := by
  refine fm_pub hst hT (k := 9) gn_M0_ms (fun g tp bt a b xs hx hI => ?_)
  obtain ⟨x0, xs0, rfl, hx0⟩ := fm_xsS hx
  obtain ⟨x1, xs1, rfl, hx1⟩ := fm_xsS hx0
  obtain ⟨x2, xs2, rfl, hx2⟩ := fm_xsS hx1
  obtain rfl := List.length_eq_zero_iff.mp hx2
  obtain ⟨v, mem', hP, hf⟩ := fr_hew (g := g) (tp := tp) (bt := bt) (a := a) (b := b) (x := x0) (y := x1) (z := x2) hI.2.1 (fm_I_gb hI)
  obtain ⟨v, g', tp', bt', a', b', e, h1, h2⟩ := fm_I_PW hI hP
  cases e
  exact ⟨v, g', tp', bt', a', b', hf, h1, h2⟩
/-- live -/
theorem gp_live (hst : ∀ (Ad : Nat → Prop) (U : State) (H : Heap), xt Ad U H → ∃ pl v tx, sk_X pl v Ad U H ∧ vk_R "GooseIceModel" 189 tx pl U) (hT : fm_Ty TY) : tk_KS l D gk_cl gk_tbl gk_xw xt gk_MN gk_P TY ro (gn_X tw) ads tw 17 (gn_K 366 1 gn_M0) := by
  refine fm_pub hst hT (k := 13) gn_M0_ms (fun g tp bt a b xs hx hI => ?_)
  obtain ⟨x0, xs0, rfl, hx0⟩ := fm_xsS hx
  obtain rfl := List.length_eq_zero_iff.mp hx0
  obtain ⟨v, mem', hP, hf⟩ := fr_live (g := g) (tp := tp) (bt := bt) (a := a) (b := b) (sd := x0) hI.2.1 (fm_I_gb hI)
  obtain ⟨v, g', tp', bt', a', b', e, h1, h2⟩ := fm_I_PO hI hP
  cases e
  exact ⟨v, g', tp', bt', a', b', hf, h1, h2⟩
/-- mean -/
theorem gp_mean (hst : ∀ (Ad : Nat → Prop) (U : State) (H : Heap), xt Ad U H → ∃ pl v tx, sk_X pl v Ad U H ∧ vk_R "GooseIceModel" 189 tx pl U) (hT : fm_Ty TY) : tk_KS l D gk_cl gk_tbl gk_xw xt gk_MN gk_P TY ro (gn_X tw) ads tw 18 (gn_K 368 2 gn_M0) := by
  refine fm_pub hst hT (k := 14) gn_M0_ms (fun g tp bt a b xs hx hI => ?_)
  obtain ⟨x0, xs0, rfl, hx0⟩ := fm_xsS hx
  obtain ⟨x1, xs1, rfl, hx1⟩ := fm_xsS hx0
  obtain rfl := List.length_eq_zero_iff.mp hx1
  obtain ⟨v, mem', hP, hf⟩ := fr_mean (g := g) (tp := tp) (bt := bt) (a := a) (b := b) (sd := x0) (my := x1) hI.2.1 (fm_I_gb hI)
  obtain ⟨v, g', tp', bt', a', b', e, h1, h2⟩ := fm_I_PZ hI hP
  cases e
  exact ⟨v, g', tp', bt', a', b', hf, h1, h2⟩
/-- odds -/
theorem gp_odds (hst : ∀ (Ad : Nat → Prop) (U : State) (H : Heap), xt Ad U H → ∃ pl v tx, sk_X pl v Ad U H ∧ vk_R "GooseIceModel" 189 tx pl U) (hT : fm_Ty TY) : tk_KS l D gk_cl gk_tbl gk_xw xt gk_MN gk_P TY ro (gn_X tw) ads tw 13 (gn_K 355 5 gn_M0) := by
  refine fm_pub hst hT (k := 9) gn_M0_ms (fun g tp bt a b xs hx hI => ?_)
  obtain ⟨x0, xs0, rfl, hx0⟩ := fm_xsS hx
  obtain ⟨x1, xs1, rfl, hx1⟩ := fm_xsS hx0
  obtain ⟨x2, xs2, rfl, hx2⟩ := fm_xsS hx1
  obtain ⟨x3, xs3, rfl, hx3⟩ := fm_xsS hx2
  obtain ⟨x4, xs4, rfl, hx4⟩ := fm_xsS hx3
  obtain rfl := List.length_eq_zero_iff.mp hx4
  obtain ⟨v, mem', hP, hf⟩ := fr_odds (g := g) (tp := tp) (bt := bt) (a := a) (b := b) (c := x0) (m := x1) (dd := x2) (f := x3) (t := x4) hI.2.1 (fm_I_gb hI)
  obtain ⟨v, g', tp', bt', a', b', e, h1, h2⟩ := fm_I_PZ hI hP
  cases e
  exact ⟨v, g', tp', bt', a', b', hf, h1, h2⟩
/-- meanIn -/
theorem gp_meanIn (hst : ∀ (Ad : Nat → Prop) (U : State) (H : Heap), xt Ad U H → ∃ pl v tx, sk_X pl v Ad U H ∧ vk_R "GooseIceModel" 189 tx pl U) (hT : fm_Ty TY) : tk_KS l D gk_cl gk_tbl gk_xw xt gk_MN gk_P TY ro (gn_X tw) ads tw 13 (gn_K 357 4 gn_M0) := by
  refine fm_pub hst hT (k := 9) gn_M0_ms (fun g tp bt a b xs hx hI => ?_)
  obtain ⟨x0, xs0, rfl, hx0⟩ := fm_xsS hx
  obtain ⟨x1, xs1, rfl, hx1⟩ := fm_xsS hx0
  obtain ⟨x2, xs2, rfl, hx2⟩ := fm_xsS hx1
  obtain ⟨x3, xs3, rfl, hx3⟩ := fm_xsS hx2
  obtain rfl := List.length_eq_zero_iff.mp hx3
  obtain ⟨v, mem', hP, hf⟩ := fr_meanIn (g := g) (tp := tp) (bt := bt) (a := a) (b := b) (c := x0) (dd := x1) (f := x2) (t := x3) hI.2.1 (fm_I_gb hI)
  obtain ⟨v, g', tp', bt', a', b', e, h1, h2⟩ := fm_I_PZ hI hP
  cases e
  exact ⟨v, g', tp', bt', a', b', hf, h1, h2⟩
/-- bestDay -/
theorem gp_bestDay (hst : ∀ (Ad : Nat → Prop) (U : State) (H : Heap), xt Ad U H → ∃ pl v tx, sk_X pl v Ad U H ∧ vk_R "GooseIceModel" 189 tx pl U) (hT : fm_Ty TY) : tk_KS l D gk_cl gk_tbl gk_xw xt gk_MN gk_P TY ro (gn_X tw) ads tw 13 (gn_K 356 5 gn_M0) := by
  refine fm_pub hst hT (k := 9) gn_M0_ms (fun g tp bt a b xs hx hI => ?_)
  obtain ⟨x0, xs0, rfl, hx0⟩ := fm_xsS hx
  obtain ⟨x1, xs1, rfl, hx1⟩ := fm_xsS hx0
  obtain ⟨x2, xs2, rfl, hx2⟩ := fm_xsS hx1
  obtain ⟨x3, xs3, rfl, hx3⟩ := fm_xsS hx2
  obtain ⟨x4, xs4, rfl, hx4⟩ := fm_xsS hx3
  obtain rfl := List.length_eq_zero_iff.mp hx4
  obtain ⟨v, mem', hP, hf⟩ := fr_bestDay (g := g) (tp := tp) (bt := bt) (a := a) (b := b) (c := x0) (m := x1) (dd := x2) (f := x3) (t := x4) hI.2.1 (fm_I_gb hI)
  obtain ⟨v, g', tp', bt', a', b', e, h1, h2⟩ := fm_I_PO hI hP
  cases e
  exact ⟨v, g', tp', bt', a', b', hf, h1, h2⟩
/-- suspects -/
theorem gp_suspects (hst : ∀ (Ad : Nat → Prop) (U : State) (H : Heap), xt Ad U H → ∃ pl v tx, sk_X pl v Ad U H ∧ vk_R "GooseIceModel" 189 tx pl U) (hT : fm_Ty TY) : tk_KS l D gk_cl gk_tbl gk_xw xt gk_MN gk_P TY ro (gn_X tw) ads tw 14 (gn_K 350 1 gn_M0) := by
  refine fm_pub hst hT (k := 10) gn_M0_ms (fun g tp bt a b xs hx hI => ?_)
  obtain ⟨x0, xs0, rfl, hx0⟩ := fm_xsS hx
  obtain rfl := List.length_eq_zero_iff.mp hx0
  obtain ⟨v, mem', hP, hf⟩ := fr_suspects (g := g) (tp := tp) (bt := bt) (a := a) (b := b) (st := x0) hI.2.1 (fm_I_gb hI)
  obtain ⟨v, g', tp', bt', a', b', e, h1, h2⟩ := fm_I_PO hI hP
  cases e
  exact ⟨v, g', tp', bt', a', b', hf, h1, h2⟩
/-- queue -/
theorem gp_queue (hst : ∀ (Ad : Nat → Prop) (U : State) (H : Heap), xt Ad U H → ∃ pl v tx, sk_X pl v Ad U H ∧ vk_R "GooseIceModel" 189 tx pl U) (hT : fm_Ty TY) : tk_KS l D gk_cl gk_tbl gk_xw xt gk_MN gk_P TY ro (gn_X tw) ads tw 14 (gn_K 334 3 gn_M0) := by
  refine fm_pub hst hT (k := 10) gn_M0_ms (fun g tp bt a b xs hx hI => ?_)
  obtain ⟨x0, xs0, rfl, hx0⟩ := fm_xsS hx
  obtain ⟨x1, xs1, rfl, hx1⟩ := fm_xsS hx0
  obtain ⟨x2, xs2, rfl, hx2⟩ := fm_xsS hx1
  obtain rfl := List.length_eq_zero_iff.mp hx2
  obtain ⟨v, mem', hP, hf⟩ := fr_queue (g := g) (tp := tp) (bt := bt) (a := a) (b := b) (set := x0) (tray := x1) (nn := x2) hI.2.1 (fm_I_gb hI)
  obtain ⟨v, g', tp', bt', a', b', e, h1, h2⟩ := fm_I_PO hI hP
  cases e
  exact ⟨v, g', tp', bt', a', b', hf, h1, h2⟩
/-- tryFirst -/
theorem gp_tryFirst (hst : ∀ (Ad : Nat → Prop) (U : State) (H : Heap), xt Ad U H → ∃ pl v tx, sk_X pl v Ad U H ∧ vk_R "GooseIceModel" 189 tx pl U) (hT : fm_Ty TY) : tk_KS l D gk_cl gk_tbl gk_xw xt gk_MN gk_P TY ro (gn_X tw) ads tw 7 (gn_K 348 2 gn_M0) := by
  refine fm_pub hst hT (k := 3) gn_M0_ms (fun g tp bt a b xs hx hI => ?_)
  obtain ⟨x0, xs0, rfl, hx0⟩ := fm_xsS hx
  obtain ⟨x1, xs1, rfl, hx1⟩ := fm_xsS hx0
  obtain rfl := List.length_eq_zero_iff.mp hx1
  obtain ⟨v, mem', hP, hf⟩ := fr_tryFirst (g := g) (tp := tp) (bt := bt) (a := a) (b := b) (n := x0) (b2 := x1) hI.2.1 (fm_I_gb hI) (fun i hi => hI.2.2 (15, 427, 0, 1000000) (by decide) i hi)
  obtain ⟨v, g', tp', bt', a', b', e, h1, h2⟩ := fm_I_PT hI hP
  cases e
  exact ⟨v, g', tp', bt', a', b', hf, h1, h2⟩
/-- lake -/
theorem gp_lake (hst : ∀ (Ad : Nat → Prop) (U : State) (H : Heap), xt Ad U H → ∃ pl v tx, sk_X pl v Ad U H ∧ vk_R "GooseIceModel" 189 tx pl U) (hT : fm_Ty TY) : tk_KS l D gk_cl gk_tbl gk_xw xt gk_MN gk_P TY ro (gn_X tw) ads tw 14 (gn_K 246 1 gn_M1) := by
  refine fm_pub hst hT (k := 10) gn_M1_ms (fun g tp bt a b xs hx hI => ?_)
  obtain ⟨x0, xs0, rfl, hx0⟩ := fm_xsS hx
  obtain rfl := List.length_eq_zero_iff.mp hx0
  obtain ⟨v, mem', hP, hf⟩ := fr_lake (g := g) (tp := tp) (bt := bt) (a := a) (b := b) (n := x0) (fm_I_10 hI)
  obtain ⟨v, g', tp', bt', a', b', e, h1, h2⟩ := fm_I_FL hI hP
  cases e
  exact ⟨v, g', tp', bt', a', b', hf, h1, h2⟩
/-- tales -/
theorem gp_tales (hst : ∀ (Ad : Nat → Prop) (U : State) (H : Heap), xt Ad U H → ∃ pl v tx, sk_X pl v Ad U H ∧ vk_R "GooseIceModel" 189 tx pl U) (hT : fm_Ty TY) : tk_KS l D gk_cl gk_tbl gk_xw xt gk_MN gk_P TY ro (gn_X tw) ads tw 17 (gn_K 252 1 gn_M1) := by
  refine fm_pub hst hT (k := 13) gn_M1_ms (fun g tp bt a b xs hx hI => ?_)
  obtain ⟨x0, xs0, rfl, hx0⟩ := fm_xsS hx
  obtain rfl := List.length_eq_zero_iff.mp hx0
  obtain ⟨v, mem', hP, hf⟩ := fr_tales (g := g) (tp := tp) (bt := bt) (a := a) (b := b) (n := x0) (fm_I_TH hI)
  obtain ⟨v, g', tp', bt', a', b', e, h1, h2⟩ := fm_I_FTA hI hP
  cases e
  exact ⟨v, g', tp', bt', a', b', hf, h1, h2⟩
/-- mark -/
theorem gp_mark (hst : ∀ (Ad : Nat → Prop) (U : State) (H : Heap), xt Ad U H → ∃ pl v tx, sk_X pl v Ad U H ∧ vk_R "GooseIceModel" 189 tx pl U) (hT : fm_Ty TY) : tk_KS l D gk_cl gk_tbl gk_xw xt gk_MN gk_P TY ro (gn_X tw) ads tw 6 (gn_K 370 0 gn_M2) := by
  refine fm_pub hst hT (k := 2) gn_M2_ms (fun g tp bt a b xs hx hI => ?_)
  obtain rfl := List.length_eq_zero_iff.mp hx
  obtain ⟨m, hm, em⟩ := fm_I_42 hI
  obtain ⟨v, mem', hP, hf⟩ := fr_mark (g := g) (tp := tp) (bt := bt) (a := a) (b := b)  hI.2.1 em hm
  obtain ⟨v, g', tp', bt', a', b', e, h1, h2⟩ := fm_I_MU (m := m) (n := m + 1) hI (by decide) (fun h => by omega) hP
  cases e
  exact ⟨v, g', tp', bt', a', b', hf, h1, h2⟩
/-- undo -/
theorem gp_undo (hst : ∀ (Ad : Nat → Prop) (U : State) (H : Heap), xt Ad U H → ∃ pl v tx, sk_X pl v Ad U H ∧ vk_R "GooseIceModel" 189 tx pl U) (hT : fm_Ty TY) : tk_KS l D gk_cl gk_tbl gk_xw xt gk_MN gk_P TY ro (gn_X tw) ads tw 6 (gn_K 371 0 gn_M2) := by
  refine fm_pub hst hT (k := 2) gn_M2_ms (fun g tp bt a b xs hx hI => ?_)
  obtain rfl := List.length_eq_zero_iff.mp hx
  obtain ⟨m, hm, em⟩ := fm_I_42 hI
  obtain ⟨v, mem', hP, hf⟩ := fr_undo (g := g) (tp := tp) (bt := bt) (a := a) (b := b)  hI.2.1 em hm
  obtain ⟨v, g', tp', bt', a', b', e, h1, h2⟩ := fm_I_MU (m := m) (n := m - 1) hI (by decide) (fun h => by omega) hP
  cases e
  exact ⟨v, g', tp', bt', a', b', hf, h1, h2⟩
end GP
end MH26_1
section MH26_2
section GN0
variable {l : Launch} {D : va_G} {xt : tk_XT} {ro : Nat → Nat → Int → Prop} {ads tw : List Nat}
/-- GooseIceModel.status -/
def gn_K0 : tk_K := (203, [(2, 0, 0, 0)], ([], []), [0], [], ([(some (0, 1, 1, 0), ([(0, 9)], []), [0], [])], []))
def gn_H0 : List tk_Hd := []
theorem gn_0 (hU : gm_U tw) (hxt : tk_xtok xt) : tk_KS l D gk_cl gk_tbl gk_xw xt gk_MN gk_P gm_TY ro (gm_X tw) ads tw 1 gn_K0 := tk_contract (hk := tk_hk0) tk_hk0_ok (gm_xs hU) hxt gk_rok [] 20000 0 0 (Ks := []) (d := 0) (fun _ h => absurd h List.not_mem_nil) (Hs := gn_H0) (by decide +kernel) rfl
/-- GooseIceModel.top -/
def gn_K1 : tk_K := (204, [(2, 0, 0, 0)], ([], []), [0], [], ([(some (1, 1, 1, 0), ([((-9223372036854775808), 9223372036854775807)], []), [0], [])], []))
def gn_H1 : List tk_Hd := []
theorem gn_1 (hU : gm_U tw) (hxt : tk_xtok xt) : tk_KS l D gk_cl gk_tbl gk_xw xt gk_MN gk_P gm_TY ro (gm_X tw) ads tw 1 gn_K1 := tk_contract (hk := tk_hk0) tk_hk0_ok (gm_xs hU) hxt gk_rok [] 20000 0 0 (Ks := []) (d := 0) (fun _ h => absurd h List.not_mem_nil) (Hs := gn_H1) (by decide +kernel) rfl
/-- GooseIceModel.bottom -/
def gn_K2 : tk_K := (205, [(2, 0, 0, 0)], ([], []), [0], [], ([(some (1, 1, 1, 0), ([((-9223372036854775808), 9223372036854775807)], []), [0], [])], []))
def gn_H2 : List tk_Hd := []
theorem gn_2 (hU : gm_U tw) (hxt : tk_xtok xt) : tk_KS l D gk_cl gk_tbl gk_xw xt gk_MN gk_P gm_TY ro (gm_X tw) ads tw 1 gn_K2 := tk_contract (hk := tk_hk0) tk_hk0_ok (gm_xs hU) hxt gk_rok [] 20000 0 0 (Ks := []) (d := 0) (fun _ h => absurd h List.not_mem_nil) (Hs := gn_H2) (by decide +kernel) rfl
/-- GooseIceModel.tray -/
def gn_K3 : tk_K := (213, [(2, 0, 0, 0), (0, 1, 1, 0), (0, 2, 1, 0), (0, 3, 1, 0)], ([((-2147483648), 2147483647), ((-2147483648), 2147483647), ((-2147483648), 2147483647)], []), [0], [], ([(some (0, 0, 0, 0), ([((-2147483648), 2147483647), ((-2147483648), 2147483647), ((-2147483648), 2147483647)], []), [0], [(0, (0, 0, 0, 2), (0, 0, 0, 1))]), (some (0, 0, 0, 1), ([(0, 3), (0, 3), (0, 60)], []), [0], [(0, (0, 0, 0, 2), (0, 0, 0, 0))])], [(0, 2), (3, 0), (4, 0), (5, 0)]))
def gn_H3 : List tk_Hd := [(49, [(0, (2, 0, 0, 0)), (1, (0, 1, 1, 0)), (2, (0, 2, 1, 0)), (3, (0, 3, 1, 0)), (4, (0, 4, 1, 0))], ([(0, 3), (0, 3), (0, 60), (0, 60)], []), [0], [], [(0, 0, (0, 0, 0, 0)), (1, 60, (0, 4, 1, 0)), (0, 0, (0, 0, 0, 0))])]
theorem gn_3 (hU : gm_U tw) (hxt : tk_xtok xt) : tk_KS l D gk_cl gk_tbl gk_xw xt gk_MN gk_P gm_TY ro (gm_X tw) ads tw 2 gn_K3 := tk_contract (hk := tk_hk0) tk_hk0_ok (gm_xs hU) hxt gk_rok [206, 211] 20000 1 3 (Ks := []) (d := 0) (fun _ h => absurd h List.not_mem_nil) (Hs := gn_H3) (by decide +kernel) rfl
/-- GooseIceModel.wrongPlace -/
def gn_K4 : tk_K := (214, [(2, 0, 0, 0), (0, 1, 1, 0), (0, 2, 1, 0)], ([((-2147483648), 2147483647), ((-2147483648), 2147483647)], []), [0], [], ([(some (0, 0, 0, 0), ([(0, 3), (0, 59)], []), [0], []), (some (0, 0, 0, 1), ([((-2147483648), 2147483647), ((-2147483648), 2147483647)], []), [0], []), (some (0, 0, 0, 2), ([(0, 3), ((-2147483648), 2147483647)], []), [0], []), (some (0, 0, 0, 3), ([(0, 3), ((-2147483648), 2147483647)], []), [0], [])], []))
def gn_H4 : List tk_Hd := []
theorem gn_4 (hU : gm_U tw) (hxt : tk_xtok xt) : tk_KS l D gk_cl gk_tbl gk_xw xt gk_MN gk_P gm_TY ro (gm_X tw) ads tw 2 gn_K4 := tk_contract (hk := tk_hk0) tk_hk0_ok (gm_xs hU) hxt gk_rok [211] 20000 1 0 (Ks := []) (d := 0) (fun _ h => absurd h List.not_mem_nil) (Hs := gn_H4) (by decide +kernel) rfl
/-- GooseIceModel.narrowed -/
def gn_K5 : tk_K := (212, [(1, 1, 1, 0), (0, 2, 1, 0)], ([((-9223372036854775808), 9223372036854775807), (0, 3)], []), [], [], ([(some (1, 3, 1, 0), ([((-9223372036854775808), 9223372036854775807), (0, 3), ((-9223372036854775808), 9223372036854775807)], []), [], [])], []))
def gn_H5 : List tk_Hd := []
theorem gn_5 (hU : gm_U tw) (hxt : tk_xtok xt) : tk_KS l D gk_cl gk_tbl gk_xw xt gk_MN gk_P gm_TY ro (gm_X tw) ads tw 1 gn_K5 := tk_contract (hk := tk_hk0) tk_hk0_ok (gm_xs hU) hxt gk_rok [] 20000 0 0 (Ks := []) (d := 0) (fun _ h => absurd h List.not_mem_nil) (Hs := gn_H5) (by decide +kernel) rfl
/-- GooseIceModel.write -/
def gn_K6 : tk_K := (215, [(2, 0, 0, 0), (0, 1, 1, 0), (0, 2, 1, 0), (1, 3, 1, 0)], ([((-2147483648), 2147483647), ((-2147483648), 2147483647), ((-9223372036854775808), 9223372036854775807)], []), [0], [], ([(some (0, 0, 0, 0), ([((-2147483648), 2147483647), ((-2147483648), 2147483647), ((-9223372036854775808), 9223372036854775807), (1, 3)], []), [0], [(0, (0, 0, 0, 2), (0, 4, 1, 0))]), (some (0, 0, 0, 1), ([(0, 3), (0, 59), ((-9223372036854775808), 9223372036854775807)], []), [0], [(0, (0, 0, 0, 2), (0, 0, 0, 0))])], [(0, 2), (5, 0)]))
def gn_H6 : List tk_Hd := []
theorem gn_6 (hU : gm_U tw) (hxt : tk_xtok xt) : tk_KS l D gk_cl gk_tbl gk_xw xt gk_MN gk_P gm_TY ro (gm_X tw) ads tw 4 gn_K6 := tk_contract (hk := tk_hk0) tk_hk0_ok (gm_xs hU) hxt gk_rok [206] 20000 1 0 (Ks := [gn_K4, gn_K5]) (d := 2) (List.forall_mem_cons.mpr ⟨tk_KS_up (by decide) (gn_4 hU hxt), (List.forall_mem_cons.mpr ⟨tk_KS_up (by decide) (gn_5 hU hxt), (fun _ h => absurd h List.not_mem_nil)⟩)⟩) (Hs := gn_H6) (by decide +kernel) rfl
/-- GooseIceModel.read -/
def gn_K7 : tk_K := (216, [(2, 0, 0, 0), (0, 1, 1, 0), (0, 2, 1, 0)], ([((-2147483648), 2147483647), ((-2147483648), 2147483647)], []), [0], [], ([(some (1, 3, 1, 0), ([((-2147483648), 2147483647), ((-2147483648), 2147483647), ((-9223372036854775808), 9223372036854775807), (0, 3)], []), [0], [(0, (0, 0, 0, 2), (0, 4, 1, 0))])], [(0, 2)]))
def gn_H7 : List tk_Hd := []
theorem gn_7 (hU : gm_U tw) (hxt : tk_xtok xt) : tk_KS l D gk_cl gk_tbl gk_xw xt gk_MN gk_P gm_TY ro (gm_X tw) ads tw 3 gn_K7 := tk_contract (hk := tk_hk0) tk_hk0_ok (gm_xs hU) hxt gk_rok [] 20000 0 0 (Ks := [gn_K4]) (d := 2) (List.forall_mem_cons.mpr ⟨tk_KS_up (by decide) (gn_4 hU hxt), (fun _ h => absurd h List.not_mem_nil)⟩) (Hs := gn_H7) (by decide +kernel) rfl
end GN0
end MH26_2
