/-! ===== a call of the class by hx: what it gives, exactly ===== -/
/-- what a changed entry must be -/
def hc_chg (ads : List Nat) (t : Nat) (e e' : fx_E) : Prop := e' = e ∨ (∃ (kd : FieldType) (n : Nat) (f' : Nat → Int32) (fl : tk_F), (kd = .int ∨ kd = .byte) ∧ e' = .inr (kd, n, .inl f') ∧ gc_ty[t]? = some (.inr (kd, n, fl)) ∧ ∀ i : Nat, i < n → tk_fv lc_ro gc_reg ads lw_twC t i fl (.int (f' i))) ∨ (∃ (n : Nat) (f' : Nat → Int64) (fl : tk_F), e' = .inr (.long, n, .inr (.inl f')) ∧ gc_ty[t]? = some (.inr (.long, n, fl)) ∧ ∀ i : Nat, i < n → tk_fv lc_ro gc_reg ads lw_twC t i fl (.long (f' i))) ∨ (∃ (ci : Nat) (vs vs' : List Value), e = .inl (ci, vs) ∧ e' = .inl (ci, vs') ∧ vs'.length = vs.length ∧ ∀ (fs : List tk_F), gc_ty[t]? = some (.inl (ci, fs)) → ∀ (i : Nat) (f : tk_F), fs[i]? = some f → vs'[i]? = vs[i]? ∨ ∃ v, vs'[i]? = some v ∧ fx_kd v ≤ 1 ∧ tk_fv lc_ro gc_reg ads lw_twC t i f v)
theorem lw_twC_lt {j t : Nat} (h : lw_twC[j]? = some t) : t < gc_ty.length := by
  have hb : j < 270 := lw_ltC h
  have key : (List.range 270).all (fun j => match lw_twC[j]? with
    | some t => Nat.blt t gc_ty.length
    | none => true) = true := by decide +kernel
  have := List.all_eq_true.mp key j (List.mem_range.mpr hb)
  rw [h] at this
  exact Nat.le_of_ble_eq_true this
theorem hr_Met {l : Launch} {D : va_G} {xt : tk_XT} (hxt : tk_xtok xt) {k f : Nat} {as : List Value} {mem mem' : fx_M} {r : Option Value} (h : hr_T k f as mem r mem') : ∀ q : rk_N, gk_MN[f]? = some q → ∃ M, gk_P[f]? = some M ∧ M.2.1 ≤ 21 ∧ ∀ (ps : fx_P) (sz : Nat), Met l q.2.1 (Jvm.Cond.code q.2.1 q.2.2 M.2.1 M.2.2.2.2.1 :: gk_tbl) { frames := k + 4, cells := 0, slots := 0, locals := 40 * (k + 4) } (hx_Pre D xt ps mem sz as) (hx_Post D ps mem' r (va_A (fx_w ps mem) sz)) 0 0 (va_A (fx_w ps mem) sz) := by
  obtain ⟨N0, h⟩ := h
  have h1 := h 0 0
  rw [Nat.zero_add k] at h1
  exact hx_call_ok hxt gk_rok _ k f as mem mem' r h1
section HCS
variable {l : Launch} {D : va_G} {xt : tk_XT} {ads : List Nat} {X : va_W → Prop}
set_option maxHeartbeats 8000000 in
theorem hc_sem0 (hxt : tk_xtok xt) {k f : Nat} {kinds : List Nat} {envs : List tk_I} {Q : List Value → va_W → va_W → Value → Prop}
    (hex : ∀ (U : State) (ax : Nat) (rest : List Value) (ws : va_W), tk_ty ads lw_twC 0 ax → rk_A2 lq_av (kinds.zip envs) rest → rk_A2 (fun t (q : Nat × va_E) => tk_cl gc_TY lc_ro ads lw_twC U t q.2) lw_twC ws → ws.map Prod.fst = ads → va_D (fun _ => True) ws → X ws → ∃ (v : Value) (mem' : fx_M), fx_kd v ≤ 1 ∧ hr_T k f (.ref 0 :: rest) (hc_mem ads lw_twC ws) (some v) mem' ∧ mem'.length = ws.length ∧ (∀ (j t : Nat) (e e' : fx_E), lw_twC[j]? = some t → (hc_mem ads lw_twC ws)[j]? = some e → mem'[j]? = some e' → hc_chg ads t e e') ∧ X (fx_w (hc_ps ws) mem') ∧ Q rest ws (fx_w (hc_ps ws) mem') v) : lw_sem l D xt gc_TY X ads lw_twC (k + 4) f kinds envs Q := by
  intro qn hqn
  obtain ⟨M, hM, hM21⟩ := gk_row hqn
  refine ⟨M, hM, hM21, fun h0 ws rest sz hty hA2' h4 hob => rk_Met_case (fun aU U hP => ?_)⟩
  obtain ⟨p1, p2, p3, p4, p5, p6, p7, p8, p10⟩ := hP
  obtain ⟨v, mem', hvv, hfr, hlen, hchg, hX2, hQ⟩ := hex U h0 rest ws hty hA2' p6 h4 p5 p10
  obtain ⟨M2, hM2, -, hmet⟩ := hr_Met (l := l) (D := D) hxt hfr qn hqn
  obtain rfl : M = M2 := Option.some.inj (hM.symm.trans hM2)
  have hl : ws.length = lw_twC.length := p6.len.symm
  have hcell : ∀ {j t : Nat} {q : Nat × va_E}, ws[j]? = some q → lw_twC[j]? = some t → tk_cl gc_TY lc_ro ads lw_twC U t q.2 := fun {j t q} h1 h2 => by
    obtain ⟨q', h3, h5⟩ := p6.get h2
    rw [h1] at h3
    cases h3
    exact h5
  have hO : hx_ok U (hc_ps ws) (hc_mem ads lw_twC ws) := ⟨by rw [hc_mem_len hl, hc_ps_len]; exact Nat.le_refl _, fun j q ty z hq hm => by
    have hlt : j < ws.length := by rw [← hc_ps_len (ws := ws)]; exact (List.getElem?_eq_some_iff.mp hq).1
    have hw : ws[j]? = some ws[j] := List.getElem?_eq_getElem hlt
    have ht : lw_twC[j]? = some (lw_twC[j]'(by omega)) := List.getElem?_eq_getElem (by omega)
    rw [hc_ps_at hw] at hq
    rw [hc_mem_at hw ht] at hm
    cases hq
    exact (hc_c h4 (hcell hw ht) (lw_twC_lt ht)).2.2.2 ty z (Option.some.inj hm)⟩
  have hPw : va_P D gk_cl (hc_w ads lw_twC ws) U.heap := fun j q hq => by
    obtain ⟨q0, t, h1, h2, rfl⟩ := hc_w_inv hl hq
    exact (hc_c h4 (hcell h1 h2) (lw_twC_lt h2)).2.1 D q0.1 U.heap (p3 j q0 h1)
  have hDw : va_D (fun _ => True) (hc_w ads lw_twC ws) := ⟨fun i j a b hi hj e => by
    obtain ⟨a0, t1, h1, -, rfl⟩ := hc_w_inv hl hi
    obtain ⟨b0, t2, h2, -, rfl⟩ := hc_w_inv hl hj
    exact p5.1 i j a0 b0 h1 h2 e, fun _ _ _ => trivial⟩
  have hfree : ∀ q, va_A (fx_w (hc_ps ws) (hc_mem ads lw_twC ws)) sz q → va_A ws sz q := by
    rintro q (⟨k1, e1, hk1⟩ | hq)
    · obtain ⟨q0, t, h1, h2, h3⟩ := hc_w_inv hl (show (hc_w ads lw_twC ws)[k1]? = some (q, e1) from hk1)
      have e9 : q = q0.1 := congrArg Prod.fst h3
      rw [e9]
      exact Or.inl ⟨k1, q0.2, h1⟩
    · exact Or.inr hq
  have hrest : rest.map (fx_v (hc_ps ws)) = rest := by
    apply List.ext_getElem?
    intro i
    rw [List.getElem?_map]
    cases hi : rest[i]? with
    | none => rfl
    | some v =>
      obtain ⟨av0, hav, hg⟩ := hA2'.getR hi
      rcases hg with ⟨-, x, rfl, -⟩ | ⟨-, x, rfl, -⟩
      · rfl
      · rfl
  have hargs : (Value.ref 0 :: rest).map (fx_v (hc_ps ws)) = .ref h0 :: rest := by
    show fx_v (hc_ps ws) (.ref 0) :: rest.map (fx_v (hc_ps ws)) = _
    rw [hrest]
    obtain ⟨j, e, hw, hj, -⟩ := tk_cell h4 p6 hty
    have := lw_twC0 j hj
    subst this
    show Value.ref (fx_ad (hc_ps ws) 0) :: rest = _
    unfold fx_ad
    rw [hc_ps_at hw]
  refine ⟨hx_Pre D xt (hc_ps ws) (hc_mem ads lw_twC ws) sz (.ref 0 :: rest), hx_Post D (hc_ps ws) mem' (some v) (va_A (fx_w (hc_ps ws) (hc_mem ads lw_twC ws)) sz), rk_Met_imp (hmet _ sz) (fun _ _ z => z) (fun _ _ _ _ _ _ z => z) hfree, ⟨by rw [hargs]; exact p1, p2, hPw, p4, hDw, hO, p7, hxt.2.2 _ _ _ _ _ p8 (fun _ _ _ => rfl) hfree⟩, ?_⟩
  rintro oc t hW ⟨⟨e1, hOt, hPt, hDt⟩, hF⟩
  have hget : ∀ {j : Nat} {q : Nat × va_E}, (fx_w (hc_ps ws) mem')[j]? = some q → ∃ (q0 : Nat × va_E) (e' : fx_E), ws[j]? = some q0 ∧ mem'[j]? = some e' ∧ q = (q0.1, fx_c (hc_ps ws) (hc_cl q0.2) e') := fun {j q} hq => by
    have hlt : j < (fx_w (hc_ps ws) mem').length := (List.getElem?_eq_some_iff.mp hq).1
    unfold fx_w at hlt
    rw [List.length_zipWith, hc_ps_len, hlen, Nat.min_self] at hlt
    have hw : ws[j]? = some ws[j] := List.getElem?_eq_getElem hlt
    have hm : mem'[j]? = some (mem'[j]'(by omega)) := List.getElem?_eq_getElem (by omega)
    refine ⟨_, _, hw, hm, ?_⟩
    unfold fx_w at hq
    rw [List.getElem?_zipWith, hc_ps_at hw, hm] at hq
    exact (Option.some.inj hq).symm
  have hwl : (fx_w (hc_ps ws) mem').length = ws.length := by
    unfold fx_w
    rw [List.length_zipWith, hc_ps_len, hlen, Nat.min_self]
  have hmap : (fx_w (hc_ps ws) mem').map Prod.fst = ads := by
    rw [← h4]
    apply List.ext_getElem?
    intro i
    rw [List.getElem?_map, List.getElem?_map]
    cases hq : (fx_w (hc_ps ws) mem')[i]? with
    | none =>
      have := List.getElem?_eq_none_iff.mp hq
      rw [List.getElem?_eq_none (by omega)]
    | some q =>
      obtain ⟨q0, e', h1, h2, rfl⟩ := hget hq
      rw [h1]
      rfl
  have hcl' : ∀ (i tt : Nat) (q : Nat × va_E), lw_twC[i]? = some tt → (fx_w (hc_ps ws) mem')[i]? = some q → tk_cl gc_TY lc_ro ads lw_twC t tt q.2 := by
    intro i tt q htw hq
    obtain ⟨q0, e', h1, h2, rfl⟩ := hget hq
    have hm0 := hc_mem_at (ads := ads) h1 htw
    have hold := (hc_c h4 (hcell h1 htw) (lw_twC_lt htw)).2.2.1
    rcases hchg i tt _ e' htw hm0 h2 with rfl | ⟨kd, n, f2, fl, hkd, rfl, k3, k4⟩ | ⟨n, f2, fl, rfl, k3, k4⟩ | ⟨ci, vs, vs', he, rfl, k4, k5⟩
    · exact tk_cl_moved hW.alike hold
    · obtain ⟨m1, m2⟩ := hOt.2 i _ _ _ (hc_ps_at h1) h2
      show tk_cl gc_TY lc_ro ads lw_twC t tt (.inl (hc_cl q0.2, n, .inl f2))
      unfold tk_cl
      rw [show gc_TY.1[tt]? = _ from k3]
      rcases hkd with rfl | rfl
      · exact ⟨_, m1, m2, f2, rfl, k4⟩
      · exact ⟨_, m1, m2, f2, rfl, k4⟩
    · obtain ⟨m1, m2⟩ := hOt.2 i _ _ _ (hc_ps_at h1) h2
      show tk_cl gc_TY lc_ro ads lw_twC t tt (.inl (hc_cl q0.2, n, .inr (.inl f2)))
      unfold tk_cl
      rw [show gc_TY.1[tt]? = _ from k3]
      exact ⟨_, m1, m2, f2, rfl, k4⟩
    · rw [he] at hold
      have hold : tk_cl gc_TY lc_ro ads lw_twC U tt (.inr (ci, vs.map (fx_v (hc_ps ws)))) := hold
      show tk_cl gc_TY lc_ro ads lw_twC t tt (.inr (ci, vs'.map (fx_v (hc_ps ws))))
      have ht := lw_twC_lt htw
      have hk : gc_TY.1[tt]? = some gc_ty[tt] := List.getElem?_eq_getElem ht
      unfold tk_cl at hold ⊢
      rw [hk] at hold ⊢
      cases hT : gc_ty[tt] with
      | inr q9 =>
        rw [hT] at hold
        obtain ⟨cA, -, -, harr⟩ := hold
        unfold tk_ar at harr
        split at harr
        all_goals first
          | exact harr.elim
          | (obtain ⟨f, e9, -⟩ := harr; cases e9)
      | inl o =>
        rw [hT] at hold hk
        obtain ⟨vz, hvz, hvzl, hvzf⟩ := hold
        obtain ⟨o1, fs⟩ := o
        have e8 : ci = o1 := by injection hvz with h; injection h
        have e9 : vs.map (fx_v (hc_ps ws)) = vz := by injection hvz with h; injection h
        subst e8
        subst e9
        refine ⟨_, rfl, by rw [List.length_map, k4, ← hvzl, List.length_map], fun i2 f2 v2 hf2 hv2 => ?_⟩
        rw [List.getElem?_map] at hv2
        obtain ⟨v3, hv3, rfl⟩ := Option.map_eq_some_iff.mp hv2
        rcases k5 fs hk i2 f2 hf2 with h9 | ⟨v9, h9, h8, h7⟩
        · exact hvzf i2 f2 _ hf2 (by rw [List.getElem?_map, ← h9, hv3]; rfl)
        · rw [hv3] at h9
          cases h9
          rw [fx_v_id h8]
          exact h7
  refine ⟨⟨fx_w (hc_ps ws) mem', v, hmap, rk_A2_of (by rw [hwl, hl]) (fun i tt q h1 h2 => hcl' i tt q h1 h2), hPt, hDt.weaken (fun _ _ _ z => hfree _ z), hX2, hQ, ?_⟩, hF.1, fun q h9' hn9 => hF.2 q h9' (fun z => hn9 (hfree q z))⟩
  rw [e1]
  show Outcome.returned (some (fx_v (hc_ps ws) v)) = .returned (some v)
  rw [fx_v_id hvv]
end HCS
