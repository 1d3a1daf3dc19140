/-! ===== the model's calls by fx: what they give, exactly ===== -/
theorem fx_v_id {ps : fx_P} {v : Value} (h : fx_kd v ≤ 1) : fx_v ps v = v := by
  cases v with
  | ref j => exact absurd (show (2 : Nat) ≤ 1 from h) (by decide)
  | _ => rfl
section FMS
variable {l : Launch} {D : va_G} {xt : tk_XT} {TY : tk_TT} {X : va_W → Prop} {ads tw : List Nat}
set_option maxHeartbeats 8000000 in
theorem fm_sem0 (hst : ∀ (Ad : Nat → Prop) (U : State) (H : Heap), xt Ad U H → ∃ pl v tx, sk_X pl v Ad U H ∧ vk_R "GooseIceModel" 189 tx pl U) (hT : fm_Ty TY) {k f : Nat} {kinds : List Nat} {envs : List tk_I} {mods : List (Nat × Nat)} {Q : List Value → va_W → va_W → Value → Prop}
    (hex : ∀ (U : State) (rest : List Value) (ws : va_W) (h0 : Nat) (ps : fx_P) (σ : List Nat) (g : Nat → Int32) (tp bt : Int64) (a : Nat → Nat → Int32) (b : Nat → Nat → Int64), rk_A2 lq_av (kinds.zip envs) rest → rk_A2 (fun t (q : Nat × va_E) => tk_cl TY lc_ro ads tw U t q.2) tw ws → ws.map Prod.fst = ads → va_D (fun _ => True) ws → fm_at U tw ws h0 ps σ (fm g tp bt a b) → X ws →
      ∃ (v : Value) (mem' : fx_M), fx_kd v ≤ 1 ∧ fr_T k f (.ref 0 :: rest) (fm g tp bt a b) (some v) mem' ∧ (∀ (t : Nat) (e e' : fx_E), (fm g tp bt a b)[t]? = some e → mem'[t]? = some e' → fm_chg2 TY lc_ro ads tw mods ps t e e') ∧ X (fx_put ws σ (fx_w ps mem')) ∧ Q rest ws (fx_put ws σ (fx_w ps mem')) v) : lw_sem l D xt TY X ads tw (k + 4) f kinds envs Q := by
  intro qn hqn
  -- the method's own table row
  obtain ⟨M, hM, hM21⟩ : ∃ M, gk_P[f]? = some M ∧ M.2.1 ≤ 21 := by
    have hlen : gk_MN.length = gk_P.length := gk_rok.2.2.2.2.1
    have hlt : f < gk_P.length := by rw [← hlen]; exact (List.getElem?_eq_some_iff.mp hqn).1
    refine ⟨gk_P[f], List.getElem?_eq_getElem hlt, ?_⟩
    have hall : gk_P.all (fun M => Nat.ble M.2.1 21) = true := by decide +kernel
    exact Nat.le_of_ble_eq_true (List.all_eq_true.mp hall _ (List.getElem_mem hlt))
  refine ⟨M, hM, hM21, fun h0 ws rest sz hty hA2' h4 hob => rk_Met_case (fun aU U hP => ?_)⟩
  obtain ⟨p1, p2, p3, p4, p5, p6, p7, p8, p10⟩ := hP
  obtain ⟨pl, v9, tx9, hsX, hsR⟩ := hst _ _ _ p8
  obtain ⟨g, tp, bt, a, b, ps, σ, hat, hz⟩ := fm_in pl hT h4 p6 hty
  obtain ⟨v, mem', hvv, hfr, hchg, hX2, hQ⟩ := hex U rest ws h0 ps σ g tp bt a b hA2' p6 h4 p5 hat p10
  obtain ⟨M2, hM2, -, hmet⟩ := fr_Met (l := l) (D := D) hfr qn hqn
  obtain rfl : M = M2 := Option.some.inj (hM.symm.trans hM2)
  obtain ⟨a1, a2, ⟨c0, a3⟩, a4, a5⟩ := id hat
  have hsub : ∀ (j : Nat) (q : Nat × va_E), (fx_w ps (fm g tp bt a b))[j]? = some q → ∃ i : Nat, ws[i]? = some q := by
    intro j q hj
    have hl : j < (fx_w ps (fm g tp bt a b)).length := (List.getElem?_eq_some_iff.mp hj).1
    have hl2 : j < ps.length := by
      unfold fx_w at hl
      rw [List.length_zipWith] at hl
      omega
    have hl3 : j < 22 := by
      unfold fx_w at hl
      rw [List.length_zipWith, show (fm g tp bt a b).length = 22 from rfl] at hl
      omega
    have hs : σ[j]? = some σ[j] := List.getElem?_eq_getElem (by omega)
    obtain ⟨b1, q1, e1, b2, b3, b4⟩ := a5 j _ hs
    refine ⟨σ[j], ?_⟩
    rw [b4, ← hj]
    unfold fx_w
    rw [List.getElem?_zipWith, b2, b3]
  have hPf : va_P D gk_cl (fx_w ps (fm g tp bt a b)) U.heap := fun j q hj => by
    obtain ⟨i, hi⟩ := hsub j q hj
    exact p3 i q hi
  have hidx : ∀ (j : Nat) (q : Nat × va_E), (fx_w ps (fm g tp bt a b))[j]? = some q → ∃ i : Nat, σ[j]? = some i ∧ ws[i]? = some q := by
    intro j q hj
    have hl : j < (fx_w ps (fm g tp bt a b)).length := (List.getElem?_eq_some_iff.mp hj).1
    have hl2 : j < ps.length := by
      unfold fx_w at hl
      rw [List.length_zipWith] at hl
      omega
    have hl3 : j < 22 := by
      unfold fx_w at hl
      rw [List.length_zipWith, show (fm g tp bt a b).length = 22 from rfl] at hl
      omega
    have hs : σ[j]? = some σ[j] := List.getElem?_eq_getElem (by omega)
    obtain ⟨b1, q1, e1, b2, b3, b4⟩ := a5 j _ hs
    refine ⟨σ[j], hs, ?_⟩
    rw [b4, ← hj]
    unfold fx_w
    rw [List.getElem?_zipWith, b2, b3]
  have hDf : va_D (fun _ => True) (fx_w ps (fm g tp bt a b)) := ⟨fun i j q1 q2 hi hj e => by
    obtain ⟨i', g1, g2⟩ := hidx i q1 hi
    obtain ⟨j', g3, g4⟩ := hidx j q2 hj
    have := p5.1 i' j' q1 q2 g2 g4 e
    subst this
    exact fm_at_inj hat i j i' g1 g3, fun _ _ _ => trivial⟩
  have hfree : ∀ q, va_A (fx_w ps (fm g tp bt a b)) sz q → va_A ws sz q := by
    rintro q (⟨k1, e1, hk1⟩ | hq)
    · obtain ⟨i, hi⟩ := hsub k1 _ hk1
      exact Or.inl ⟨i, e1, hi⟩
    · exact Or.inr hq
  have hrest : rest.map (fx_v ps) = rest := by
    apply List.ext_getElem?
    intro i
    rw [List.getElem?_map]
    cases hi : rest[i]? with
    | none => rfl
    | some v =>
      obtain ⟨av0, hav, hg⟩ := hA2'.getR hi
      rcases hg with ⟨-, x, rfl, -⟩ | ⟨-, x, rfl, -⟩
      · rfl
      · rfl
  have hargs : (Value.ref 0 :: rest).map (fx_v ps) = .ref h0 :: rest := by
    show fx_v ps (.ref 0) :: rest.map (fx_v ps) = _
    rw [hrest]
    show Value.ref (fx_ad ps 0) :: rest = _
    unfold fx_ad
    rw [a3]
  refine ⟨fx_Pre D ps (fm g tp bt a b) sz (.ref 0 :: rest), fx_Post D ps mem' (some v) (va_A (fx_w ps (fm g tp bt a b)) sz), rk_Met_imp (hmet ps sz) (fun _ _ z => z) (fun _ _ _ _ _ _ z => z) hfree, ⟨by rw [hargs]; exact p1, p2, hPf, p4, hDf, a4, p7, ⟨v9, tx9, by rw [a1]; show sk_X (fx_ad ps 22) _ _ _ _; rw [hz]; exact hsX.narrow hfree, by rw [a1]; show vk_R _ _ _ (fx_ad ps 22) _; rw [hz]; exact hsR⟩⟩, ?_⟩
  rintro oc t hW ⟨⟨e1, hOt, hPt, hDt⟩, hF⟩
  obtain ⟨hput1, hput2⟩ := fm_put hat hOt
  have hmap : (fx_put ws σ (fx_w ps mem')).map Prod.fst = ads := by
    rw [← h4]
    apply List.ext_getElem?
    intro i
    rw [List.getElem?_map, List.getElem?_map]
    rcases fm_in_or (σ := σ) i with ⟨tt, ht⟩ | hno
    · obtain ⟨-, q, e, e', g1, g2, g3, g4, g5⟩ := hput2 tt i ht
      rw [g4, g5]
      rfl
    · rw [hput1 i hno]
  have hlenw : (fx_put ws σ (fx_w ps mem')).length = tw.length := by rw [fx_put_len]; exact p6.len.symm
  have hcl' : ∀ (i tt : Nat) (q : Nat × va_E), tw[i]? = some tt → (fx_put ws σ (fx_w ps mem'))[i]? = some q → tk_cl TY lc_ro ads tw t tt q.2 := by
    intro i tt q htw hq
    rcases fm_in_or (σ := σ) i with ⟨t2, ht⟩ | hno
    · obtain ⟨k1, q1, e, e', g1, g2, g3, g4, g5⟩ := hput2 t2 i ht
      rw [htw] at k1
      obtain rfl : tt = t2 := Option.some.inj k1
      rw [g5] at hq
      cases hq
      obtain ⟨qq, hqq, hc0⟩ := p6.get htw
      rw [g4] at hqq
      cases hqq
      rcases hchg tt e e' g2 g3 with rfl | ⟨kd, n, f1, f2, fl, hkd, rfl, rfl, k3, k4, -⟩ | ⟨n, f1, f2, fl, rfl, rfl, k3, k4, -⟩ | ⟨ci, vs, vs', fs, rfl, rfl, k3, k4, k5, k6, -⟩
      · exact tk_cl_moved hW.alike hc0
      · obtain ⟨m1, m2⟩ := hOt.2 tt q1 _ _ g1 g3
        show tk_cl TY lc_ro ads tw t tt (.inl (q1.2, n, .inl f2))
        unfold tk_cl
        rw [k3]
        rcases hkd with rfl | rfl
        · exact ⟨q1.2, m1, m2, f2, rfl, k4⟩
        · exact ⟨q1.2, m1, m2, f2, rfl, k4⟩
      · obtain ⟨m1, m2⟩ := hOt.2 tt q1 _ _ g1 g3
        show tk_cl TY lc_ro ads tw t tt (.inl (q1.2, n, .inr (.inl f2)))
        unfold tk_cl
        rw [k3]
        exact ⟨q1.2, m1, m2, f2, rfl, k4⟩
      · unfold tk_cl at hc0
        rw [k3] at hc0
        obtain ⟨vz, hvz, hvzl, hvzf⟩ := hc0
        cases hvz
        show tk_cl TY lc_ro ads tw t tt (.inr (ci, vs'.map (fx_v ps)))
        unfold tk_cl
        rw [k3]
        refine ⟨_, rfl, by rw [List.length_map]; exact k4, fun i2 f2 v2 hf2 hv2 => ?_⟩
        rw [List.getElem?_map] at hv2
        obtain ⟨v3, hv3, rfl⟩ := Option.map_eq_some_iff.mp hv2
        by_cases h2 : f2.1 = 2
        · have := k6 i2 f2 hf2 h2
          rw [hv3] at this
          exact hvzf i2 f2 _ hf2 (by rw [List.getElem?_map, ← this]; rfl)
        · exact k5 i2 f2 v3 hf2 hv3 h2
    · rw [hput1 i hno] at hq
      obtain ⟨qq, hqq, hc0⟩ := p6.get htw
      rw [hq] at hqq
      cases hqq
      exact tk_cl_moved hW.alike hc0
  have hnin : ∀ (i : Nat) (q : Nat × va_E), (∀ t2 : Nat, ¬ σ[t2]? = some i) → ws[i]? = some q → ¬ va_A (fx_w ps (fm g tp bt a b)) sz q.1 := by
    rintro i q hno hq (⟨k1, ee, hk1⟩ | hge)
    · obtain ⟨i', g1, g2⟩ := hidx k1 _ hk1
      have := p5.1 i i' q _ hq g2 rfl
      subst this
      exact hno k1 g1
    · have := (p3 i q hq).lt
      rw [p2] at this
      omega
  have hPw : va_P D gk_cl (fx_put ws σ (fx_w ps mem')) t.heap := by
    intro i q hq
    rcases fm_in_or (σ := σ) i with ⟨t2, ht⟩ | hno
    · obtain ⟨k1, q1, e, e', g1, g2, g3, g4, g5⟩ := hput2 t2 i ht
      rw [g5] at hq
      cases hq
      refine hPt t2 _ ?_
      unfold fx_w
      rw [List.getElem?_zipWith, g1, g3]
    · rw [hput1 i hno] at hq
      exact (p3 i q hq).kept (hF.2 q.1 (p3 i q hq).lt (hnin i q hno hq))
  have hget : ∀ (i : Nat) (q : Nat × va_E), (fx_put ws σ (fx_w ps mem'))[i]? = some q → ∃ e9, ws[i]? = some (q.1, e9) := by
    intro i q hq
    rcases fm_in_or (σ := σ) i with ⟨t2, ht⟩ | hno
    · obtain ⟨k1, q1, e, e', g1, g2, g3, g4, g5⟩ := hput2 t2 i ht
      rw [g5] at hq
      cases hq
      exact ⟨_, g4⟩
    · rw [hput1 i hno] at hq
      exact ⟨q.2, hq⟩
  have hDw : va_D (va_A ws sz) (fx_put ws σ (fx_w ps mem')) := ⟨fun i j q1 q2 hi hj e => by
    obtain ⟨e9, g1⟩ := hget i q1 hi
    obtain ⟨e8, g2⟩ := hget j q2 hj
    exact p5.1 i j _ _ g1 g2 e, fun i q hi => by
    obtain ⟨e9, g1⟩ := hget i q hi
    exact Or.inl ⟨i, e9, g1⟩⟩
  refine ⟨⟨fx_put ws σ (fx_w ps mem'), v, hmap, rk_A2_of (by rw [hlenw]) (fun i tt q h1 h2 => hcl' i tt q h1 h2), hPw, hDw, hX2, hQ, ?_⟩, hF.1, fun q h9' hn9 => hF.2 q h9' (fun z => hn9 (hfree q z))⟩
  rw [e1]
  show Outcome.returned (some (fx_v ps v)) = .returned (some v)
  rw [fx_v_id hvv]

end FMS
/-- what stands in the model's world -/
def fw_is (ws : va_W) (g : Nat → Int32) (tp bt : Int64) (a : Nat → Nat → Int32) (b : Nat → Nat → Int64) : Prop := (∀ (k : Nat) (v : Value), (fm_o g tp bt)[k]? = some v → fx_kd v ≤ 1 → lw_at ws (0, k) = some v) ∧ (∀ (t n : Nat) (ty : FieldType) (f : Nat → Int32) (i : Nat), (fm g tp bt a b)[t]? = some (.inr (ty, n, .inl f)) → i < n → lw_at ws (t, i) = some (.int (f i))) ∧ ∀ (t n : Nat) (ty : FieldType) (f : Nat → Int64) (i : Nat), (fm g tp bt a b)[t]? = some (.inr (ty, n, .inr (.inl f))) → i < n → lw_at ws (t, i) = some (.long (f i))
section FMIS
variable {g g' g2 : Nat → Int32} {tp bt tp' bt' tp2 bt2 : Int64} {a a' a2 : Nat → Nat → Int32} {b b' b2 : Nat → Nat → Int64}
theorem fw_of {w : va_W} {ps : fx_P} (h : ∀ (t : Nat) (e : fx_E), (fm g tp bt a b)[t]? = some e → ∃ q : Nat × ClassId, w[t]? = some (q.1, fx_c ps q.2 e)) : fw_is w g tp bt a b := by
  refine ⟨fun k v hk hd => ?_, fun t n ty f i ht hi => ?_, fun t n ty f i ht hi => ?_⟩
  · obtain ⟨q, hq⟩ := h 0 _ rfl
    unfold lw_at
    dsimp only
    rw [hq]
    show ((fm_o g tp bt).map (fx_v ps))[k]? = some v
    rw [List.getElem?_map, hk]
    show some (fx_v ps v) = some v
    rw [fx_v_id hd]
  · obtain ⟨q, hq⟩ := h t _ ht
    unfold lw_at
    dsimp only
    rw [hq]
    show (if i < n then some (Value.int (f i)) else none) = _
    rw [if_pos hi]
  · obtain ⟨q, hq⟩ := h t _ ht
    unfold lw_at
    dsimp only
    rw [hq]
    show (if i < n then some (Value.long (f i)) else none) = _
    rw [if_pos hi]
theorem lw_twM_at {t j : Nat} (h : lw_twM[j]? = some t) : j = t := by
  unfold lw_twM at h
  obtain ⟨h1, h2⟩ := List.getElem?_eq_some_iff.mp h
  rw [List.getElem_range] at h2
  exact h2
theorem fm_len22 : (fm g tp bt a b).length = 22 := rfl
theorem fw_is_at {U : State} {ws : va_W} {h0 : Nat} {ps : fx_P} {σ : List Nat} (hat : fm_at U lw_twM ws h0 ps σ (fm g tp bt a b)) : fw_is ws g tp bt a b := by
  refine fw_of (ps := ps) (fun t e he => ?_)
  have ht : t < 22 := by rw [← fm_len22 (g := g) (tp := tp) (bt := bt) (a := a) (b := b)]; exact (List.getElem?_eq_some_iff.mp he).1
  have hl1 : t < σ.length := by have := hat.2.1; omega
  have hs : σ[t]? = some (σ[t]'hl1) := List.getElem?_eq_getElem hl1
  obtain ⟨h1, q, e0, g1, g2, g3⟩ := hat.2.2.2.2 t _ hs
  rw [he] at g2
  cases g2
  rw [lw_twM_at h1] at g3
  exact ⟨q, g3⟩
theorem fw_is_put {U : State} {ws : va_W} {h0 : Nat} {ps : fx_P} {σ : List Nat} (hat : fm_at U lw_twM ws h0 ps σ (fm g tp bt a b)) : fw_is (fx_put ws σ (fx_w ps (fm g' tp' bt' a' b'))) g' tp' bt' a' b' := by
  refine fw_of (ps := ps) (fun t e he => ?_)
  have ht : t < 22 := by rw [← fm_len22 (g := g') (tp := tp') (bt := bt') (a := a') (b := b')]; exact (List.getElem?_eq_some_iff.mp he).1
  have hl1 : t < σ.length := by have := hat.2.1; omega
  have hs : σ[t]? = some (σ[t]'hl1) := List.getElem?_eq_getElem hl1
  obtain ⟨h1, q, e0, g1, g2, g3⟩ := hat.2.2.2.2 t _ hs
  have hs2 : σ[t]? = some t := hs.trans (congrArg some (lw_twM_at h1))
  rw [lw_twM_at h1] at g3
  refine ⟨q, fx_put_in ws (List.getElem?_eq_some_iff.mp g3).1 σ _ t (fm_at_inj hat) hs2 ?_⟩
  unfold fx_w
  rw [List.getElem?_zipWith, g1, he]
theorem fm_o_inj (k : Nat) (h : fm g tp bt a b = fm g2 tp2 bt2 a2 b2) : (fm_o g tp bt)[k]? = (fm_o g2 tp2 bt2)[k]? := by
  have h1 : fm_o g tp bt = fm_o g2 tp2 bt2 := congrArg (fun m : fx_M => match m with
    | .inl o :: _ => o.2
    | _ => []) h
  rw [h1]
/-- a public call of the model -/
theorem fm_sem {l : Launch} {D : va_G} {xt : tk_XT} {TY : tk_TT} {ads : List Nat} (hst : ∀ (Ad : Nat → Prop) (U : State) (H : Heap), xt Ad U H → ∃ pl v tx, sk_X pl v Ad U H ∧ vk_R "GooseIceModel" 189 tx pl U) (hT : fm_Ty TY) {k f n : Nat} {mods : List (Nat × Nat)} (hM : fm_ms mods) {Q : List Int32 → (Nat → Int32) → Int64 → Int64 → (Nat → Nat → Int32) → (Nat → Nat → Int64) → (Nat → Int32) → Int64 → Int64 → (Nat → Nat → Int32) → (Nat → Nat → Int64) → Int32 → Prop}
    (hfr : ∀ (g : Nat → Int32) (tp bt : Int64) (a : Nat → Nat → Int32) (b : Nat → Nat → Int64) (xs : List Int32), xs.length = n → fm_I g a → ∃ (v : Int32) (g' : Nat → Int32) (tp' bt' : Int64) (a' : Nat → Nat → Int32) (b' : Nat → Nat → Int64), fr_T k f (.ref 0 :: xs.map Value.int) (fm g tp bt a b) (some (.int v)) (fm g' tp' bt' a' b') ∧ fm_I g' a' ∧ fm_ffr mods g a b g' a' b' ∧ Q xs g tp bt a b g' tp' bt' a' b' v) : lw_sem l D xt TY (gn_X lw_twM) ads lw_twM (k + 4) f (List.replicate n 0) (List.replicate n gn_i) (fun av ws ws' v => ∃ (xs : List Int32) (g : Nat → Int32) (tp bt : Int64) (a : Nat → Nat → Int32) (b : Nat → Nat → Int64) (g' : Nat → Int32) (tp' bt' : Int64) (a' : Nat → Nat → Int32) (b' : Nat → Nat → Int64) (x : Int32), av = xs.map Value.int ∧ v = .int x ∧ fw_is ws g tp bt a b ∧ fw_is ws' g' tp' bt' a' b' ∧ fm_I g a ∧ fm_I g' a' ∧ Q xs g tp bt a b g' tp' bt' a' b' x) := by
  refine fm_sem0 (mods := mods) hst hT (fun U rest ws h0 ps σ g tp bt a b hrest hty hfst hD hat hX => ?_)
  obtain ⟨xs, hxl, rfl⟩ : ∃ xs : List Int32, xs.length = n ∧ rest = xs.map Value.int := by
    have : ∀ (n : Nat) (rest : List Value), rk_A2 lq_av ((List.replicate n 0).zip (List.replicate n gn_i)) rest → ∃ xs : List Int32, xs.length = n ∧ rest = xs.map Value.int := by
      intro n
      induction n with
      | zero => intro rest h; rw [h.nil]; exact ⟨[], rfl, rfl⟩
      | succ n ih =>
        intro rest h
        obtain ⟨v, r, rfl, h1, h2⟩ := rk_A2.cons (show rk_A2 lq_av ((0, gn_i) :: (List.replicate n 0).zip (List.replicate n gn_i)) rest from h)
        obtain ⟨xs, e1, rfl⟩ := ih r h2
        rcases h1 with ⟨-, x, rfl, -⟩ | ⟨h1, -⟩
        · exact ⟨x :: xs, by rw [List.length_cons, e1], rfl⟩
        · cases h1
    exact this n rest hrest
  have hI := fm_I_of hT hty hat hX
  obtain ⟨v, g', tp', bt', a', b', h1, h2, h3, h4⟩ := hfr g tp bt a b xs hxl hI
  exact ⟨.int v, _, Nat.zero_le 1, h1, fm_chgA hT h2 hM h3, fm_X2 hat hX h2.2.1.2.1 (fm_B_60 h2.2.1.1), xs, g, tp, bt, a, b, g', tp', bt', a', b', v, rfl, rfl, fw_is_at hat, fw_is_put hat, hI, h2, h4⟩
end FMIS
/-- a field of an object -/
theorem lw_fld {TY : tk_TT} {ads tw : List Nat} {U : State} {ws : va_W} {t y i j0 : Nat} {lo hi : Int} {o : Nat × List tk_F} (h4 : ws.map Prod.fst = ads) (h5 : rk_A2 (fun b (q : Nat × va_E) => tk_cl TY lc_ro ads tw U b q.2) tw ws) (hty : tk_ty ads tw t y) (ho : TY.1[t]? = some (.inl o)) (hf : o.2[i]? = some (0, lo, hi)) (hj : ∀ j, tw[j]? = some t → j = j0) : ∃ (e : va_E) (x : Int32), ws[j0]? = some (y, e) ∧ lw_at ws (j0, i) = some (.int x) ∧ lo ≤ x.toInt ∧ x.toInt ≤ hi := by
  obtain ⟨j, e, hw, ht, hc⟩ := tk_cell h4 h5 hty
  have := hj j ht
  subst this
  unfold tk_cl at hc
  rw [ho] at hc
  obtain ⟨vs, rfl, hvl, hvs⟩ := hc
  have hlt : i < vs.length := by rw [hvl]; exact (List.getElem?_eq_some_iff.mp hf).1
  obtain ⟨x, hx, h1, h2⟩ : ∃ x : Int32, vs[i] = .int x ∧ lo ≤ x.toInt ∧ x.toInt ≤ hi := hvs i _ _ hf (List.getElem?_eq_getElem hlt)
  refine ⟨_, x, hw, ?_, h1, h2⟩
  unfold lw_at
  dsimp only
  rw [hw]
  show vs[i]? = _
  rw [List.getElem?_eq_getElem hlt, hx]
theorem lw_twC0 : ∀ j, lw_twC[j]? = some 0 → j = 0 := by
  intro j h
  have hb : j < 270 := lw_ltC h
  have : ∀ j, j < 270 → lw_twC[j]? = some 0 → j = 0 := by decide +kernel
  exact this j hb h
theorem tk_g_int {vals : List Int} {rads : List Nat} {c : Int} {v : Value} (h : tk_g vals rads (0, 0, 0, c) v) : ∃ x : Int32, v = .int x ∧ x.toInt = c := by
  obtain ⟨x, rfl, hx⟩ := tk_g0 h rfl
  exact ⟨x, rfl, (Option.some.inj (show some c = some x.toInt from hx)).symm⟩
theorem tk_g_nI {vals : List Int} {rads : List Nat} {k : Nat} {v : Value} (hk : k < 2147483648) (h : tk_g vals rads (0, 0, 0, (k : Int)) v) : v = .int (nI k) := by
  obtain ⟨x, rfl, hx⟩ := tk_g_int h
  have e : x.toInt = (nI k).toInt := by rw [nI_i32 hk]; exact hx
  rw [Int32.toInt_inj.mp e]
theorem tk_g_of {vals : List Int} {rads : List Nat} {k : Nat} (hk : k < 2147483648) : tk_g vals rads (0, 0, 0, (k : Int)) (.int (nI k)) := ⟨nI k, rfl, by show some (k : Int) = _; rw [nI_i32 hk]⟩
