/-! ===== a call typed, and exact under a condition ===== -/
section HCS3
variable {l : Launch} {D : va_G} {xt : tk_XT} {ads : List Nat} {X : va_W → Prop}
set_option maxHeartbeats 8000000 in
/-- a typed contract and an exact run -/
theorem hc_sem2P (hxt : tk_xtok xt) {k f d : Nat} {kinds : List Nat} {envs : List tk_I} {Q0 : List Value → va_W → va_W → Value → Prop} {Q1 : List Value → va_W → fx_M → Value → Prop} {P : List Value → va_W → Prop} (hd : k + 4 ≤ d) (hK : lw_sem l D xt gc_TY X ads lw_twC d f kinds envs Q0)
    (hex : ∀ (U : State) (ax : Nat) (rest : List Value) (ws : va_W), tk_ty ads lw_twC 0 ax → rk_A2 lq_av (kinds.zip envs) rest → rk_A2 (fun t (q : Nat × va_E) => tk_cl gc_TY lc_ro ads lw_twC U t q.2) lw_twC ws → ws.map Prod.fst = ads → va_D (fun _ => True) ws → X ws → P rest ws → ∃ (v : Value) (mem' : fx_M), fx_kd v ≤ 1 ∧ hr_T k f (.ref 0 :: rest) (hc_mem ads lw_twC ws) (some v) mem' ∧ Q1 rest ws mem' v) : lw_sem l D xt gc_TY X ads lw_twC d f kinds envs (fun av ws ws' v => Q0 av ws ws' v ∧ (P av ws → ∃ mem', Q1 av ws mem' v ∧ hc_two D ads ws ws' mem')) := by
  intro qn hqn
  obtain ⟨M, hM, hM21, hK⟩ := hK qn hqn
  refine ⟨M, hM, hM21, fun h0 ws rest sz hty hA2' h4 hob => rk_Met_case (fun aU U hP => ?_)⟩
  obtain ⟨p1, p2, p3, p4, p5, p6, p7, p8, p10⟩ := id hP
  rcases (Classical.em (P rest ws)).symm with hp | hp
  · refine ⟨_, _, hK h0 ws rest sz hty hA2' h4 hob, hP, ?_⟩
    rintro oc t hW ⟨⟨ws', v1, b1, b2, b3, b4, b5, b6, b7⟩, hF1⟩
    exact ⟨⟨ws', v1, b1, b2, b3, b4, b5, ⟨b6, fun z => absurd z hp⟩, b7⟩, hF1⟩
  obtain ⟨v, mem', hvv, hfr, hQ⟩ := hex U h0 rest ws hty hA2' p6 h4 p5 p10 hp
  obtain ⟨M2, hM2, -, hmet⟩ := hr_Met (l := l) (D := D) hxt hfr qn hqn
  obtain rfl : M = M2 := Option.some.inj (hM.symm.trans hM2)
  have hl : ws.length = lw_twC.length := p6.len.symm
  have hcell : ∀ {j t : Nat} {q : Nat × va_E}, ws[j]? = some q → lw_twC[j]? = some t → tk_cl gc_TY lc_ro ads lw_twC U t q.2 := fun {j t q} h1 h2 => by
    obtain ⟨q', h3, h5⟩ := p6.get h2
    rw [h1] at h3
    cases h3
    exact h5
  have hO : hx_ok U (hc_ps ws) (hc_mem ads lw_twC ws) := ⟨by rw [hc_mem_len hl, hc_ps_len]; exact Nat.le_refl _, fun j q ty z hq hm => by
    have hlt : j < ws.length := by rw [← hc_ps_len (ws := ws)]; exact (List.getElem?_eq_some_iff.mp hq).1
    have hw : ws[j]? = some ws[j] := List.getElem?_eq_getElem hlt
    have ht : lw_twC[j]? = some (lw_twC[j]'(by omega)) := List.getElem?_eq_getElem (by omega)
    rw [hc_ps_at hw] at hq
    rw [hc_mem_at hw ht] at hm
    cases hq
    exact (hc_c h4 (hcell hw ht) (lw_twC_lt ht)).2.2.2 ty z (Option.some.inj hm)⟩
  have hPw : va_P D gk_cl (hc_w ads lw_twC ws) U.heap := fun j q hq => by
    obtain ⟨q0, t, h1, h2, rfl⟩ := hc_w_inv hl hq
    exact (hc_c h4 (hcell h1 h2) (lw_twC_lt h2)).2.1 D q0.1 U.heap (p3 j q0 h1)
  have hDw : va_D (fun _ => True) (hc_w ads lw_twC ws) := ⟨fun i j a b hi hj e => by
    obtain ⟨a0, t1, h1, -, rfl⟩ := hc_w_inv hl hi
    obtain ⟨b0, t2, h2, -, rfl⟩ := hc_w_inv hl hj
    exact p5.1 i j a0 b0 h1 h2 e, fun _ _ _ => trivial⟩
  have hfree : ∀ q, va_A (fx_w (hc_ps ws) (hc_mem ads lw_twC ws)) sz q → va_A ws sz q := by
    rintro q (⟨k1, e1, hk1⟩ | hq)
    · obtain ⟨q0, t, h1, h2, h3⟩ := hc_w_inv hl (show (hc_w ads lw_twC ws)[k1]? = some (q, e1) from hk1)
      have e9 : q = q0.1 := congrArg Prod.fst h3
      rw [e9]
      exact Or.inl ⟨k1, q0.2, h1⟩
    · exact Or.inr hq
  have hrest : rest.map (fx_v (hc_ps ws)) = rest := by
    apply List.ext_getElem?
    intro i
    rw [List.getElem?_map]
    cases hi : rest[i]? with
    | none => rfl
    | some v =>
      obtain ⟨av0, hav, hg⟩ := hA2'.getR hi
      rcases hg with ⟨-, x, rfl, -⟩ | ⟨-, x, rfl, -⟩
      · rfl
      · rfl
  have hargs : (Value.ref 0 :: rest).map (fx_v (hc_ps ws)) = .ref h0 :: rest := by
    show fx_v (hc_ps ws) (.ref 0) :: rest.map (fx_v (hc_ps ws)) = _
    rw [hrest]
    obtain ⟨j, e, hw, hj, -⟩ := tk_cell h4 p6 hty
    have := lw_twC0 j hj
    subst this
    show Value.ref (fx_ad (hc_ps ws) 0) :: rest = _
    unfold fx_ad
    rw [hc_ps_at hw]
  have m1 := hK h0 ws rest sz hty hA2' h4 hob
  have m2 := lw_Met_up hd (hmet (hc_ps ws) sz)
  have hP2 : hx_Pre D xt (hc_ps ws) (hc_mem ads lw_twC ws) sz (.ref 0 :: rest) aU U := ⟨by rw [hargs]; exact p1, p2, hPw, p4, hDw, hO, p7, hxt.2.2 _ _ _ _ _ p8 (fun _ _ _ => rfl) hfree⟩
  have both := lw_Met_and (rk_Met_imp m1 (Pc' := fun a W => a = aU ∧ W = U) (fun a W z => by obtain ⟨rfl, rfl⟩ := z; exact hP) (fun _ _ _ _ _ _ z => z) (fun _ z => z)) (rk_Met_imp m2 (Pc' := fun a W => a = aU ∧ W = U) (fun a W z => by obtain ⟨rfl, rfl⟩ := z; exact hP2) (fun _ _ _ _ _ _ z => z) (fun _ z => z))
  refine ⟨_, _, both, ⟨rfl, rfl⟩, ?_⟩
  rintro oc t hW ⟨⟨⟨ws', v1, b1, b2, b3, b4, b5, b6, b7⟩, hF1⟩, ⟨⟨e1, hOt, hPt, hDt⟩, hF2⟩⟩
  have ev : v1 = v := by
    rw [b7] at e1
    have e1 : Outcome.returned (some v1) = .returned (some (fx_v (hc_ps ws) v)) := e1
    rw [fx_v_id hvv] at e1
    exact Option.some.inj (Outcome.returned.inj e1)
  exact ⟨⟨ws', v1, b1, b2, b3, b4, b5, ⟨b6, fun _ => ⟨mem', by rw [ev]; exact hQ, t, b1, b2, b3, hPt, h4⟩⟩, b7⟩, hF1⟩
end HCS3
