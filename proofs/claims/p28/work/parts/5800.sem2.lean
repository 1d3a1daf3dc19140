/-! ===== a call of the class, exact and typed at once ===== -/
/-- two contracts of one method, one beginning: both ends -/
theorem lw_Met_and {l : Launch} {y : MethodName} {cs : List Jvm.Cond} {rm : Room} {Pc : Array Value → State → Prop} {Q1 Q2 : Array Value → State → Outcome → State → Prop} {mc ms : Nat} {F1 F2 : Addr → Prop} (h1 : Met l y cs rm Pc Q1 mc ms F1) (h2 : Met l y cs rm Pc Q2 mc ms F2) : Met l y cs rm Pc (fun a st o t => Q1 a st o t ∧ Q2 a st o t) mc ms F1 := by
  unfold Met at h1 h2 ⊢
  have h := MetFree.all (G := Bool) (P := fun _ => Pc) (Q := fun i => cond i (fun a st o t => Q1 a st o t ∧ ∃ L, FrameEnd st o t L mc ms ∧ ∀ q ∈ L, F1 q.base) (fun a st o t => Q2 a st o t ∧ ∃ L, FrameEnd st o t L mc ms ∧ ∀ q ∈ L, F2 q.base)) (fun i => by cases i; exact h2; exact h1)
  refine MetFree.mono h (fun a U z => ⟨true, z⟩) (fun _ _ _ _ _ z => z) (fun a st o t hP hQ => ?_)
  obtain ⟨q1, L, q2, q3⟩ := hQ true hP
  exact ⟨⟨q1, (hQ false hP).1⟩, L, q2, q3⟩
theorem lw_Met_up {l : Launch} {y : MethodName} {cs : List Jvm.Cond} {Pc : Array Value → State → Prop} {Qc : Array Value → State → Outcome → State → Prop} {F1 : Addr → Prop} {d d' : Nat} (hd : d ≤ d') (h : Met l y cs { frames := d, cells := 0, slots := 0, locals := 40 * d } Pc Qc 0 0 F1) : Met l y cs { frames := d', cells := 0, slots := 0, locals := 40 * d' } Pc Qc 0 0 F1 := by
  unfold Met at h ⊢
  exact MetFree.respec h (fun _ _ z => z) hd (by show 40 * d ≤ 40 * d'; omega) (Nat.le_refl _) (Nat.le_refl _)
/-- what stands at a place of a world, as an int, as a long -/
def gw (ws : va_W) (j i : Nat) : Int32 := match lw_at ws (j, i) with
  | some (.int x) => x
  | _ => 0
def lwl (ws : va_W) (j i : Nat) : Int64 := match lw_at ws (j, i) with
  | some (.long x) => x
  | _ => 0
theorem gw_of {ws : va_W} {j i : Nat} {x : Int32} (h : lw_at ws (j, i) = some (.int x)) : gw ws j i = x := by
  unfold gw
  rw [h]
theorem lwl_of {ws : va_W} {j i : Nat} {x : Int64} (h : lw_at ws (j, i) = some (.long x)) : lwl ws j i = x := by
  unfold lwl
  rw [h]
theorem gw_eq {ws ws' : va_W} {j i : Nat} (h : lw_at ws' (j, i) = lw_at ws (j, i)) : gw ws' j i = gw ws j i := by
  unfold gw
  rw [h]
theorem lwl_eq {ws ws' : va_W} {j i : Nat} (h : lw_at ws' (j, i) = lw_at ws (j, i)) : lwl ws' j i = lwl ws j i := by
  unfold lwl
  rw [h]
/-- two pictures of one cell -/
theorem ag_I {H : Heap} {y n : Nat} {cA cA' : ClassId} {f f' : Nat → Int32} (h1 : H[y]? = some (vp_cell cA (n, .inl f))) (h2 : H[y]? = some (vp_cell cA' (n, .inl f'))) {i : Nat} (hi : i < n) : f i = f' i := by
  have e := Option.some.inj (h1.symm.trans h2)
  have e2 := congrArg (fun c : Cell => c.slots[i]?) e
  have e3 : (arrV cA n (fun j => .int (f j))).slots[i]? = (arrV cA' n (fun j => .int (f' j))).slots[i]? := e2
  rw [arrV_read _ _ hi, arrV_read _ _ hi] at e3
  exact Value.int.inj (Option.some.inj e3)
theorem ag_L {H : Heap} {y n : Nat} {cA cA' : ClassId} {f f' : Nat → Int64} (h1 : H[y]? = some (vp_cell cA (n, .inr (.inl f)))) (h2 : H[y]? = some (vp_cell cA' (n, .inr (.inl f')))) {i : Nat} (hi : i < n) : f i = f' i := by
  have e := Option.some.inj (h1.symm.trans h2)
  have e2 := congrArg (fun c : Cell => c.slots[i]?) e
  have e3 : (arrV cA n (fun j => .long (f j))).slots[i]? = (arrV cA' n (fun j => .long (f' j))).slots[i]? := e2
  rw [arrV_read _ _ hi, arrV_read _ _ hi] at e3
  exact Value.long.inj (Option.some.inj e3)
theorem ag_O {H : Heap} {y N : Nat} {cC : ClassId} {iS : Nat → Nat} {vs vs' : List Value} (h1 : t_OB y cC N iS H (vp_V vs)) (h2 : t_OB y cC N iS H (vp_V vs')) {i : Nat} (hi : i < N) : vs.getD i .null = vs'.getD i .null := by
  obtain ⟨c1, a1, -, -, a4⟩ := h1
  obtain ⟨c2, b1, -, -, b4⟩ := h2
  obtain rfl : c1 = c2 := Option.some.inj (a1.symm.trans b1)
  exact Option.some.inj ((a4 i hi).symm.trans (b4 i hi))
section AGW
variable {D : va_G} {ads : List Nat} {t : State} {ws ws' : va_W} {mem' : fx_M}
/-- what the typed end and the exact end have in common -/
def hc_two (D : va_G) (ads : List Nat) (ws ws' : va_W) (mem' : fx_M) : Prop := ∃ t : State, ws'.map Prod.fst = ads ∧ rk_A2 (fun b (q : Nat × va_E) => tk_cl gc_TY lc_ro ads lw_twC t b q.2) lw_twC ws' ∧ va_P D gk_cl ws' t.heap ∧ va_P D gk_cl (fx_w (hc_ps ws) mem') t.heap ∧ ws.map Prod.fst = ads
theorem hc_two_at (h : hc_two D ads ws ws' mem') {j tt : Nat} {e : fx_E} (ht : lw_twC[j]? = some tt) (hm : mem'[j]? = some e) : ∃ (t : State) (y : Nat) (e1 : va_E) (cA : ClassId), ws'[j]? = some (y, e1) ∧ tk_cl gc_TY lc_ro ads lw_twC t tt e1 ∧ va_at D gk_cl (y, e1) t.heap ∧ va_at D gk_cl (y, fx_c (hc_ps ws) cA e) t.heap := by
  obtain ⟨t, h1, h2, h3, h4, h5⟩ := h
  obtain ⟨q1, k1, k2⟩ := h2.get ht
  have hl : j < ws.length := by
    have e1 : ws.length = ws'.length := by rw [← List.length_map (f := Prod.fst) (as := ws), ← List.length_map (f := Prod.fst) (as := ws'), h1, h5]
    rw [e1]
    exact (List.getElem?_eq_some_iff.mp k1).1
  have hw : ws[j]? = some ws[j] := List.getElem?_eq_getElem hl
  have ey : q1.1 = ws[j].1 := by
    have a1 : (ws'.map Prod.fst)[j]? = some q1.1 := by rw [List.getElem?_map, k1]; rfl
    have a2 : (ws.map Prod.fst)[j]? = some ws[j].1 := by rw [List.getElem?_map, hw]; rfl
    rw [h1] at a1
    rw [h5] at a2
    exact Option.some.inj (a1.symm.trans a2)
  have hx : (fx_w (hc_ps ws) mem')[j]? = some (ws[j].1, fx_c (hc_ps ws) (hc_cl ws[j].2) e) := by
    unfold fx_w
    rw [List.getElem?_zipWith, hc_ps_at hw, hm]
  refine ⟨t, q1.1, q1.2, hc_cl ws[j].2, k1, k2, h3 j q1 k1, ?_⟩
  have := h4 j _ hx
  rw [ey]
  exact this
theorem hc_two_I (h : hc_two D ads ws ws' mem') {j tt n : Nat} {kd : FieldType} {fl : tk_F} {f : Nat → Int32} (ht : lw_twC[j]? = some tt) (hk : gc_ty[tt]? = some (.inr (kd, n, fl))) (hkd : kd = .int ∨ kd = .byte) (hm : mem'[j]? = some (.inr (kd, n, .inl f))) : ∀ i, i < n → lw_at ws' (j, i) = some (.int (f i)) := by
  intro i hi
  obtain ⟨t, y, e1, cA, k1, k2, k3, k4⟩ := hc_two_at h ht hm
  unfold tk_cl at k2
  rw [show gc_TY.1[tt]? = _ from hk] at k2
  obtain ⟨cB, -, -, h3⟩ := k2
  obtain ⟨f2, e⟩ : ∃ f2, e1 = .inl (cB, n, .inl f2) := by
    unfold tk_ar at h3
    rcases hkd with rfl | rfl
    · obtain ⟨f2, e, -⟩ := h3; exact ⟨f2, e⟩
    · obtain ⟨f2, e, -⟩ := h3; exact ⟨f2, e⟩
  subst e
  have a1 : t.heap[y]? = some (vp_cell cB (n, .inl f2)) := k3
  have a2 : t.heap[y]? = some (vp_cell cA (n, .inl f)) := k4
  unfold lw_at
  dsimp only
  rw [k1]
  show (if i < n then some (Value.int (f2 i)) else none) = _
  rw [if_pos hi, ag_I a1 a2 hi]
theorem hc_two_L (h : hc_two D ads ws ws' mem') {j tt n : Nat} {fl : tk_F} {f : Nat → Int64} (ht : lw_twC[j]? = some tt) (hk : gc_ty[tt]? = some (.inr (.long, n, fl))) (hm : mem'[j]? = some (.inr (.long, n, .inr (.inl f)))) : ∀ i, i < n → lw_at ws' (j, i) = some (.long (f i)) := by
  intro i hi
  obtain ⟨t, y, e1, cA, k1, k2, k3, k4⟩ := hc_two_at h ht hm
  unfold tk_cl at k2
  rw [show gc_TY.1[tt]? = _ from hk] at k2
  obtain ⟨cB, -, -, h3⟩ := k2
  obtain ⟨f2, e, -⟩ := (show ∃ f : Nat → Int64, e1 = .inl (cB, n, .inr (.inl f)) ∧ _ from h3)
  subst e
  have a1 : t.heap[y]? = some (vp_cell cB (n, .inr (.inl f2))) := k3
  have a2 : t.heap[y]? = some (vp_cell cA (n, .inr (.inl f))) := k4
  unfold lw_at
  dsimp only
  rw [k1]
  show (if i < n then some (Value.long (f2 i)) else none) = _
  rw [if_pos hi, ag_L a1 a2 hi]
theorem hc_two_O (h : hc_two D ads ws ws' mem') {j tt ci : Nat} {fs : List tk_F} {vs : List Value} {r : vw_C} (ht : lw_twC[j]? = some tt) (hk : gc_ty[tt]? = some (.inl (ci, fs))) (hr : gk_cl[ci]? = some r) (hn : r.2.2 = fs.length) (hl : vs.length = fs.length) (hm : mem'[j]? = some (.inl (ci, vs))) {i : Nat} {v : Value} (hv : vs[i]? = some v) (hkd : fx_kd v ≤ 1) : lw_at ws' (j, i) = some v := by
  obtain ⟨t, y, e1, cA, k1, k2, k3, k4⟩ := hc_two_at h ht hm
  unfold tk_cl at k2
  rw [show gc_TY.1[tt]? = _ from hk] at k2
  obtain ⟨vs2, rfl, hvl, -⟩ := k2
  obtain ⟨r1, a1, a2⟩ := (show ∃ r : vw_C, gk_cl[ci]? = some r ∧ t_OB y (D.1 ci) r.2.2 (D.2 ci) t.heap (vp_V vs2) from k3)
  obtain ⟨r2, b1, b2⟩ := (show ∃ r : vw_C, gk_cl[ci]? = some r ∧ t_OB y (D.1 ci) r.2.2 (D.2 ci) t.heap (vp_V (vs.map (fx_v (hc_ps ws)))) from k4)
  rw [hr] at a1 b1
  cases a1
  cases b1
  have hi : i < vs.length := (List.getElem?_eq_some_iff.mp hv).1
  have e := ag_O a2 b2 (i := i) (by rw [hn]; omega)
  unfold lw_at
  dsimp only
  rw [k1]
  show vs2[i]? = some v
  have hi2 : i < vs2.length := by
    rw [show vs2.length = fs.length from hvl]
    omega
  rw [List.getElem?_eq_getElem hi2]
  rw [List.getD_eq_getElem?_getD, List.getD_eq_getElem?_getD, List.getElem?_eq_getElem hi2, List.getElem?_map, hv] at e
  have e : vs2[i] = fx_v (hc_ps ws) v := e
  rw [e, fx_v_id hkd]
end AGW
section HCS2
variable {l : Launch} {D : va_G} {xt : tk_XT} {ads : List Nat} {X : va_W → Prop}
set_option maxHeartbeats 8000000 in
/-- a typed contract and an exact run -/
theorem hc_sem2 (hxt : tk_xtok xt) {k f d : Nat} {kinds : List Nat} {envs : List tk_I} {Q0 : List Value → va_W → va_W → Value → Prop} {Q1 : List Value → va_W → fx_M → Value → Prop} (hd : k + 4 ≤ d) (hK : lw_sem l D xt gc_TY X ads lw_twC d f kinds envs Q0)
    (hex : ∀ (U : State) (ax : Nat) (rest : List Value) (ws : va_W), tk_ty ads lw_twC 0 ax → rk_A2 lq_av (kinds.zip envs) rest → rk_A2 (fun t (q : Nat × va_E) => tk_cl gc_TY lc_ro ads lw_twC U t q.2) lw_twC ws → ws.map Prod.fst = ads → va_D (fun _ => True) ws → X ws → ∃ (v : Value) (mem' : fx_M), fx_kd v ≤ 1 ∧ hr_T k f (.ref 0 :: rest) (hc_mem ads lw_twC ws) (some v) mem' ∧ Q1 rest ws mem' v) : lw_sem l D xt gc_TY X ads lw_twC d f kinds envs (fun av ws ws' v => Q0 av ws ws' v ∧ ∃ mem', Q1 av ws mem' v ∧ hc_two D ads ws ws' mem') := by
  intro qn hqn
  obtain ⟨M, hM, hM21, hK⟩ := hK qn hqn
  refine ⟨M, hM, hM21, fun h0 ws rest sz hty hA2' h4 hob => rk_Met_case (fun aU U hP => ?_)⟩
  obtain ⟨p1, p2, p3, p4, p5, p6, p7, p8, p10⟩ := id hP
  obtain ⟨v, mem', hvv, hfr, hQ⟩ := hex U h0 rest ws hty hA2' p6 h4 p5 p10
  obtain ⟨M2, hM2, -, hmet⟩ := hr_Met (l := l) (D := D) hxt hfr qn hqn
  obtain rfl : M = M2 := Option.some.inj (hM.symm.trans hM2)
  have hl : ws.length = lw_twC.length := p6.len.symm
  have hcell : ∀ {j t : Nat} {q : Nat × va_E}, ws[j]? = some q → lw_twC[j]? = some t → tk_cl gc_TY lc_ro ads lw_twC U t q.2 := fun {j t q} h1 h2 => by
    obtain ⟨q', h3, h5⟩ := p6.get h2
    rw [h1] at h3
    cases h3
    exact h5
  have hO : hx_ok U (hc_ps ws) (hc_mem ads lw_twC ws) := ⟨by rw [hc_mem_len hl, hc_ps_len]; exact Nat.le_refl _, fun j q ty z hq hm => by
    have hlt : j < ws.length := by rw [← hc_ps_len (ws := ws)]; exact (List.getElem?_eq_some_iff.mp hq).1
    have hw : ws[j]? = some ws[j] := List.getElem?_eq_getElem hlt
    have ht : lw_twC[j]? = some (lw_twC[j]'(by omega)) := List.getElem?_eq_getElem (by omega)
    rw [hc_ps_at hw] at hq
    rw [hc_mem_at hw ht] at hm
    cases hq
    exact (hc_c h4 (hcell hw ht) (lw_twC_lt ht)).2.2.2 ty z (Option.some.inj hm)⟩
  have hPw : va_P D gk_cl (hc_w ads lw_twC ws) U.heap := fun j q hq => by
    obtain ⟨q0, t, h1, h2, rfl⟩ := hc_w_inv hl hq
    exact (hc_c h4 (hcell h1 h2) (lw_twC_lt h2)).2.1 D q0.1 U.heap (p3 j q0 h1)
  have hDw : va_D (fun _ => True) (hc_w ads lw_twC ws) := ⟨fun i j a b hi hj e => by
    obtain ⟨a0, t1, h1, -, rfl⟩ := hc_w_inv hl hi
    obtain ⟨b0, t2, h2, -, rfl⟩ := hc_w_inv hl hj
    exact p5.1 i j a0 b0 h1 h2 e, fun _ _ _ => trivial⟩
  have hfree : ∀ q, va_A (fx_w (hc_ps ws) (hc_mem ads lw_twC ws)) sz q → va_A ws sz q := by
    rintro q (⟨k1, e1, hk1⟩ | hq)
    · obtain ⟨q0, t, h1, h2, h3⟩ := hc_w_inv hl (show (hc_w ads lw_twC ws)[k1]? = some (q, e1) from hk1)
      have e9 : q = q0.1 := congrArg Prod.fst h3
      rw [e9]
      exact Or.inl ⟨k1, q0.2, h1⟩
    · exact Or.inr hq
  have hrest : rest.map (fx_v (hc_ps ws)) = rest := by
    apply List.ext_getElem?
    intro i
    rw [List.getElem?_map]
    cases hi : rest[i]? with
    | none => rfl
    | some v =>
      obtain ⟨av0, hav, hg⟩ := hA2'.getR hi
      rcases hg with ⟨-, x, rfl, -⟩ | ⟨-, x, rfl, -⟩
      · rfl
      · rfl
  have hargs : (Value.ref 0 :: rest).map (fx_v (hc_ps ws)) = .ref h0 :: rest := by
    show fx_v (hc_ps ws) (.ref 0) :: rest.map (fx_v (hc_ps ws)) = _
    rw [hrest]
    obtain ⟨j, e, hw, hj, -⟩ := tk_cell h4 p6 hty
    have := lw_twC0 j hj
    subst this
    show Value.ref (fx_ad (hc_ps ws) 0) :: rest = _
    unfold fx_ad
    rw [hc_ps_at hw]
  have m1 := hK h0 ws rest sz hty hA2' h4 hob
  have m2 := lw_Met_up hd (hmet (hc_ps ws) sz)
  have hP2 : hx_Pre D xt (hc_ps ws) (hc_mem ads lw_twC ws) sz (.ref 0 :: rest) aU U := ⟨by rw [hargs]; exact p1, p2, hPw, p4, hDw, hO, p7, hxt.2.2 _ _ _ _ _ p8 (fun _ _ _ => rfl) hfree⟩
  have both := lw_Met_and (rk_Met_imp m1 (Pc' := fun a W => a = aU ∧ W = U) (fun a W z => by obtain ⟨rfl, rfl⟩ := z; exact hP) (fun _ _ _ _ _ _ z => z) (fun _ z => z)) (rk_Met_imp m2 (Pc' := fun a W => a = aU ∧ W = U) (fun a W z => by obtain ⟨rfl, rfl⟩ := z; exact hP2) (fun _ _ _ _ _ _ z => z) (fun _ z => z))
  refine ⟨_, _, both, ⟨rfl, rfl⟩, ?_⟩
  rintro oc t hW ⟨⟨⟨ws', v1, b1, b2, b3, b4, b5, b6, b7⟩, hF1⟩, ⟨⟨e1, hOt, hPt, hDt⟩, hF2⟩⟩
  have ev : v1 = v := by
    rw [b7] at e1
    have e1 : Outcome.returned (some v1) = .returned (some (fx_v (hc_ps ws) v)) := e1
    rw [fx_v_id hvv] at e1
    exact Option.some.inj (Outcome.returned.inj e1)
  exact ⟨⟨ws', v1, b1, b2, b3, b4, b5, ⟨b6, mem', by rw [ev]; exact hQ, t, b1, b2, b3, hPt, h4⟩, b7⟩, hF1⟩
end HCS2
