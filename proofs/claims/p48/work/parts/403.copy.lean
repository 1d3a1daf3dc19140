/-! ===== the class: Tales.copyFrom by hand: the arrays are copied, then the count ===== -/
/-- a state, its stack too, is an instance of a template -/
def tk_hitS (TY : tk_TT) (id : tk_SG) (T st : tk_S) : Bool := match tk_mlo st.2.2.1 st.1 id T.1 with
  | some q => (match tk_ms st.2.2.1 q st.2.1 T.2.1 with
    | some q2 => (match tk_mf TY q2 st.2.2.1 st.2.2.2.1 st.2.2.2.2 T.2.2.2.2 with
      | some x => tk_fin x.2.1 x.2.2.1 x.1 T.2.2.1 T.2.2.2.1
      | none => false)
    | none => false)
  | none => false
section TKHS
variable {p : Program} {l : Launch} {e : Env} {R : Room} {s : State} {m : MethodId} {args : Array Value} {below : List Frame} {meth : Method} {c : Code} {Q : State → Prop} {cc : ByteArray} {D : va_G} {cl : List vw_C} {Ad : Nat → Prop} {nL : Nat} {vals0 : List Int} {rads0 : List Nat}
variable {mods : List (Nat × Nat)} {ws0 : va_W} {tbl xw : List Jvm.Cond} {fty : rk_F} {cln : List String} {MN : List rk_N} {mci : List Nat} {P : List rk_M2} {own : String} {lk : List (Nat × Nat × Nat × Nat)} {cs : List (Nat × Value)} {xt : tk_XT} {TY : tk_TT} {ro : Nat → Nat → Int → Prop} {X X' : va_W → Prop} {ads tw : List Nat}
theorem tk_hitS_ok {w0 : tk_W} {rf0 : List Nat} (hH0 : tk_H w0 vals0) (h30 : rk_A2 (fun t y => tk_ty ads tw t y) rf0 rads0) {K : rk_K} {pc : Nat} {T st : tk_S} (hh : tk_hitS TY (tk_id w0 rf0) T st = true) (kk : tk_St K nL (tk_hr mods ws0 TY ro X ads tw s D cl Ad vals0 rads0) pc T) : tk_St K nL (tk_hr mods ws0 TY ro X ads tw s D cl Ad vals0 rads0) pc st := by
  obtain ⟨lo, sk, w, rf, fa⟩ := st
  intro vals rads H locs ls stk lc hH hR hl hL hS
  dsimp only at hH hR hL hS
  unfold tk_hitS at hh
  dsimp only at hh
  split at hh
  · next q hq =>
    split at hh
    · next q2 hq2 =>
      split at hh
      · next x hx =>
        obtain ⟨⟨kv, rfl⟩, ⟨kr, rfl⟩, h3, ws, h4, h5, h6, h7, h8, hun, h9⟩ := hR
        have hid : tk_sg (vals0 ++ kv) (rads0 ++ kr) (tk_id w0 rf0) vals0 rads0 := tk_sg_grow _ _ (tk_id_ok hH0 h30)
        obtain ⟨l2, r2, lcB, g1, g2, g3⟩ := tk_mlo_ok hH hL hid hq
        obtain ⟨l4, r4, g4, g5⟩ := tk_ms_ok hH g1 hS hq2
        obtain ⟨l3, r3, lB, rB', m1, m2, m3, m4, m5⟩ := tk_mf_ok (tk_ob_of h4 h5) hH h3 h9 g4 hx
        obtain ⟨f1, f2⟩ := tk_fin_ok m1 m2 m4 hh
        simp only [List.append_assoc] at m4 m5 f1 f2 g2 g5
        refine kk (vals0 ++ (l2 ++ (l4 ++ lB))) (rads0 ++ (r2 ++ (r4 ++ rB'))) H locs ls stk lcB f1 ⟨⟨_, rfl⟩, ⟨_, rfl⟩, f2, ws, h4, h5, h6, h7, h8, hun, m5⟩ ⟨hl.1, hl.2.1, fun z hz => hl.2.2 z (g3 z hz)⟩ ?_ ?_
        · have := g2.grow (l4 ++ lB) (r4 ++ rB')
          simp only [List.append_assoc] at this
          exact this
        · have := tk_skG g5 lB rB'
          simp only [List.append_assoc] at this
          exact this
      · cases hh
    · cases hh
  · cases hh
/-- a part of a run between cuts, without ends -/
theorem tk_seg (hXs : tk_xs TY X ads tw) (hxt : tk_xtok xt) (hXt : xt Ad s s.heap) (hok : rk_ok tbl xw cl fty cln MN mci P) (hx : p.tables.exec = Jvm.exec) (hb : c.code = cc) {M : rk_M2} (hml : c.maxLocals = M.2.1) (hins : ∀ r ∈ M.1, decode cc r.1 = .ok r.2) (hF : rk_Fr s m args meth D cl Ad tbl xw fty cln own M.2.2.1 M.2.2.2.1) (hck : ∀ r ∈ M.2.2.1, rk_cok tbl xw MN P own r) (hkk : ∀ r ∈ M.2.2.1, rk_kok tbl own r) {d : Nat} {call : tk_Ca} (hcall : tk_SC l D cl tbl xw xt MN P TY ro X ads tw d call) (hfr : d + 1 ≤ R.frames) (hlo : 40 * (d + 1) ≤ R.locals) {cut : Nat → tk_S → Option Bool} (hcut : ∀ pc st, cut pc st = some true → tk_St (rk_KW p l e R s m args below meth c Q) M.2.1 (tk_hr mods ws0 TY ro X ads tw s D cl Ad vals0 rads0) pc st) {fuel : Nat} {work : List (Nat × tk_S)} (h : tk_loop (tk_go1 (tk_fun mods TY fty mci call M) M.2.2.2.2.1 M.1) cut fuel work [] = some []) : ∀ q ∈ work, tk_St (rk_KW p l e R s m args below meth c Q) M.2.1 (tk_hr mods ws0 TY ro X ads tw s D cl Ad vals0 rads0) q.1 q.2 :=
  (tk_loop_ok (W := fun pc st => tk_St (rk_KW p l e R s m args below meth c Q) M.2.1 (tk_hr mods ws0 TY ro X ads tw s D cl Ad vals0 rads0) pc st) (XS := []) hcut (fun _ _ _ hx2 => absurd hx2 List.not_mem_nil) (fun _ _ hz hk => tk_step0 hXs hxt hXt hok hx hb hml hins hF hck hkk hcall hfr hlo hz hk) fuel work [] [] h (fun _ z => z)).2
set_option maxHeartbeats 4000000 in
/-- an int array is copied whole: what X says becomes what X' says -/
theorem tk_cpyG (hx : p.tables.exec = Jvm.exec) (hb : c.code = cc) (hml : c.maxLocals = nL) (hF : rk_Fr s m args meth D cl Ad tbl xw fty cln own lk cs) (hfr : 1 ≤ R.frames) (hlo : 40 ≤ R.locals) (hkk : ∀ r ∈ lk, rk_kok tbl own r) {pc idx a0 a1 N t0 t1 : Nat} {f0 f1 : tk_F} {lo : List (Nat × tk_V)} {d a : tk_V} {w : tk_W} {rf : List Nat} {fa : tk_FA} (hlk1 : rk_lk lk idx = some (12, a0, a1)) (hdg : decode cc pc = .ok (.invokestatic idx, 3)) (hT0 : TY.1[t0]? = some (.inr (.int, N, f0))) (hT1 : TY.1[t1]? = some (.inr (.int, N, f1))) (hfv : ∀ i v, tk_fv ro TY.2.1 ads tw t0 i f0 v → tk_fv ro TY.2.1 ads tw t1 i f1 v) (ha : a.1 = 2) (hd : d.1 = 2) (hra : rf[a.2.1]? = some t0) (hrd : rf[d.2.1]? = some t1) (hm : (t1, 0) ∈ mods) (hrg : (TY.2.2.1 t1).isNone = true)
    (hstep : ∀ (vals : List Int) (rads : List Nat) (ws : va_W) (q0 q1 x0 x1 : Nat) (e0 e1 e1' : va_E), (∀ z ∈ fa, tk_fk vals rads ws z) → rads[a.2.1]? = some x0 → rads[d.2.1]? = some x1 → (∃ k, rads = rads0 ++ k) → ws.map Prod.fst = ads → va_D Ad ws → ws[q0]? = some (x0, e0) → ws[q1]? = some (x1, e1) → tw[q0]? = some t0 → tw[q1]? = some t1 → (∀ i, tk_pos e1' i = tk_pos e0 i) → X ws → X' (ws.set q1 (x1, e1')))
    (kk : tk_St (rk_KW p l e R s m args below meth c Q) nL (tk_hr mods ws0 TY ro X' ads tw s D cl Ad vals0 rads0) (pc + 3) (lo, [], w, rf, fa.filter (tk_kpa rf t1))) : tk_St (rk_KW p l e R s m args below meth c Q) nL (tk_hr mods ws0 TY ro X ads tw s D cl Ad vals0 rads0) pc (lo, [(0, 0, 0, (N : Int)), (0, 0, 0, 0), d, (0, 0, 0, 0), a], w, rf, fa) := by
  obtain ⟨hts, hxw, hown, hK, hA, hcl, hlk, hini, hac, hcs⟩ := hF
  obtain ⟨w1, w2, w3, w4⟩ := hkk _ (rk_lk_mem hlk1) rfl
  have hnf : nativeFrameWords "java/lang/System" "arraycopy" 5 ≤ 20 := by decide +kernel
  intro vals rads H locs ls stk lc hH hR hl hL hS
  dsimp only at hH hR hL hS
  obtain ⟨vn, j1, rfl, gn, hSa⟩ := hS.cons
  obtain ⟨vd, j2, rfl, gdp, hSb⟩ := hSa.cons
  obtain ⟨vo, j3, rfl, gd, hSc⟩ := hSb.cons
  obtain ⟨vs, j4, rfl, gsp, hSd⟩ := hSc.cons
  obtain ⟨va, j5, rfl, ga, hSe⟩ := hSd.cons
  have hj5 := hSe.nil
  subst hj5
  obtain ⟨xn, rfl, nn⟩ := tk_g0 gn rfl
  obtain ⟨xd, rfl, nd⟩ := tk_g0 gdp rfl
  obtain ⟨xs, rfl, ns⟩ := tk_g0 gsp rfl
  have en : (N : Int) = xn.toInt := Option.some.inj nn
  have ed : (0 : Int) = xd.toInt := Option.some.inj nd
  have es : (0 : Int) = xs.toInt := Option.some.inj ns
  obtain ⟨y1, hd1, rfl⟩ := tk_g2 gd hd
  obtain ⟨y0, hd0, rfl⟩ := tk_g2 ga ha
  obtain ⟨hv0, hr0, h3, ws, h4, h5, h6, h7, h8, hun, h9⟩ := id hR
  obtain ⟨x', hax', hty0⟩ := h3.get hra
  rw [hd0] at hax'; cases hax'
  obtain ⟨x', hax', hty1⟩ := h3.get hrd
  rw [hd1] at hax'; cases hax'
  obtain ⟨q0, e0, hw0, hj0, hc0⟩ := tk_cell h4 h5 hty0
  obtain ⟨q1, e1, hw1, hj1, hc1⟩ := tk_cell h4 h5 hty1
  unfold tk_cl at hc0 hc1
  rw [hT0] at hc0
  rw [hT1] at hc1
  obtain ⟨cA0, hA01, hA02, f, rfl, hf⟩ := hc0
  obtain ⟨cA1, hA11, hA12, g, rfl, hg⟩ := hc1
  have hK2 : va_K D cl [(cA0, .int), (cA1, .int)] s := (rk_K1 hK hA01 hA02).app (rk_K1 hK hA11 hA12)
  have z0 : (0 : Int32).toInt = 0 := rfl
  have nxn : xn.toNatClampNeg = N := by show xn.toInt.toNat = N; omega
  have nxd : xd.toNatClampNeg = 0 := by show xd.toInt.toNat = 0; omega
  have nxs : xs.toNatClampNeg = 0 := by show xs.toInt.toNat = 0; omega
  have hneg : ∀ z : Int32, 0 ≤ z.toInt → ¬ z < 0 := fun z hz q => by
    have := Int32.lt_iff_toInt_lt.mp q
    omega
  refine va_copyi (ty := .int) hx hb (by rw [hml]; exact hl.1.symm) hown (hts _ w1) (hts _ w2) (hts _ w3) (hts _ w4) hK2 h6 h7 h8 q0 q1 0 1 hw0 hw1 rfl rfl rfl (hneg _ (by omega)) (hneg _ (by omega)) (hneg _ (by omega)) (by rw [nxs, nxn]; show 0 + N ≤ N; omega) (by rw [nxd, nxn]; show 0 + N ≤ N; omega) (fun _ _ => rfl) hfr (by show 0 + _ ≤ _; omega) hdg (fun H1 locs1 hP1 hD1 hS1 => ?_)
  rw [nxs, nxd, nxn] at hP1 hD1
  have hcy : ∀ i, i < N → va_cpy f g 0 0 N i = f i := fun i hi => by
    rw [pk_cpy_in (by omega) (by omega)]
    congr 1
    omega
  refine kk vals rads H1 locs1 ls _ lc hH ⟨hv0, hr0, h3, _, by rw [rk_map_set hw1]; exact h4, tk_A2_setR ?_ h5 hj1, hP1, hD1, hS1, ⟨tk_un_tr hun.1 (tk_un_set (mods := [(t1, 0)]) hw1 hj1 (fun i hi => absurd (show (t1, tk_rg TY t1 i) ∈ [(t1, 0)] by rw [tk_rg_none hrg i]; exact List.mem_singleton.mpr rfl) hi) ⟨0, by rw [tk_rg_none hrg 0]; exact List.mem_singleton.mpr rfl⟩) (fun z hz => by rw [List.mem_singleton.mp hz]; exact hm), hstep vals rads ws q0 q1 _ _ _ _ _ h9 hd0 hd1 hr0 h4 h7 hw0 hw1 hj0 hj1 ?_ hun.2⟩, fun z hz => tk_fk_oth h3 h4 h7 hw1 hj1 (List.mem_filter.mp hz).2 (h9 z (List.mem_filter.mp hz).1)⟩ hl hL trivial
  · show tk_cl TY ro ads tw s t1 _
    unfold tk_cl
    rw [hT1]
    refine ⟨cA1, hA11, hA12, _, rfl, fun i hi => ?_⟩
    rw [hcy i hi]
    exact hfv i _ (hf i hi)
  · intro i
    show (if i < N then some (Value.int (va_cpy f g 0 0 N i)) else none) = (if i < N then some (Value.int (f i)) else none)
    by_cases hi : i < N
    · rw [if_pos hi, if_pos hi, hcy i hi]
    · rw [if_neg hi, if_neg hi]
set_option maxHeartbeats 4000000 in
/-- an int field is written: what X says becomes what X' says -/
theorem tk_putG (hx : p.tables.exec = Jvm.exec) (hb : c.code = cc) (hF : rk_Fr s m args meth D cl Ad tbl xw fty cln own lk cs) {pc idx kd ci k t : Nat} {fs : List tk_F} {f : tk_F} {ft : FieldType × Bool} {lo : List (Nat × tk_V)} {v a : tk_V} {w : tk_W} {rf : List Nat} {fa : tk_FA} (hlk1 : rk_lk lk idx = some (kd, ci, k)) (hkd : kd = 0 ∨ kd = 1) (hdg : decode cc pc = .ok (.putfield idx, 3)) (hT : TY.1[t]? = some (.inl (ci, fs))) (hf : fs[k]? = some f) (hft : (fty[ci]?).bind (fun z => z[k]?) = some ft) (hfit : tk_fits w.1 f v = true) (hbt : tk_bt w.1 ft.1 v = true) (hft2 : ft.2 = false) (ha : a.1 = 2) (hra : rf[a.2.1]? = some t) (hm : (t, tk_rg TY t k) ∈ mods)
    (hstep : ∀ (vals : List Int) (rads : List Nat) (ws : va_W) (j x : Nat) (e e' : va_E) (u : Value), (∀ z ∈ fa, tk_fk vals rads ws z) → rads[a.2.1]? = some x → (∃ k, rads = rads0 ++ k) → ws.map Prod.fst = ads → va_D Ad ws → tk_ob TY ro ads tw ws → ws[j]? = some (x, e) → tw[j]? = some t → tk_g vals rads v u → tk_pos e' k = some u → (∀ i, ¬ i = k → tk_pos e' i = tk_pos e i) → X ws → X' (ws.set j (x, e')))
    (kk : tk_St (rk_KW p l e R s m args below meth c Q) nL (tk_hr mods ws0 TY ro X' ads tw s D cl Ad vals0 rads0) (pc + 3) (lo, [], w, rf, fa.filter (tk_kpa rf t))) : tk_St (rk_KW p l e R s m args below meth c Q) nL (tk_hr mods ws0 TY ro X ads tw s D cl Ad vals0 rads0) pc (lo, [v, a], w, rf, fa) := by
  obtain ⟨hts, hxw, hown, hK, hA, hcl, hlk, hini, hac, hcs⟩ := hF
  intro vals rads H locs ls stk lc hH hR hl hL hS
  dsimp only at hH hR hL hS
  obtain ⟨u, k0, rfl, gu, hS0⟩ := hS.cons
  obtain ⟨va, k1, rfl, hg, hS1⟩ := hS0.cons
  have hk1 := hS1.nil
  subst hk1
  obtain ⟨x, hax, rfl⟩ := tk_g2 hg ha
  obtain ⟨hv0, hr0, h3, ws, h4, h5, h6, h7, h8, hun, h9⟩ := id hR
  obtain ⟨x', hax', hty⟩ := h3.get hra
  rw [hax] at hax'
  cases hax'
  obtain ⟨j, e1, hw, hj, hc1⟩ := tk_cell h4 h5 hty
  unfold tk_cl at hc1
  rw [hT] at hc1
  obtain ⟨vs, rfl, hvl, hvs⟩ := hc1
  have hkl : k < vs.length := by rw [hvl]; exact (List.getElem?_eq_some_iff.mp hf).1
  have hfv := tk_fits_ok (ro := ro) (reg := TY.2.1) (ads := ads) (tw := tw) t k hH.1 gu hfit
  obtain ⟨hn, hfi⟩ := tk_bt_ok hH.1 gu hbt
  have hpd : ∀ i, ¬ i = k → tk_pos (.inr (ci, vs.set k u)) i = tk_pos (.inr (ci, vs)) i := fun i hi => List.getElem?_set_ne (Ne.symm hi)
  have fin : ∀ (H1 : Heap) (locs1 : List Loc), va_P D cl (ws.set j (x, .inr (ci, vs.set k u))) H1 → va_D Ad (ws.set j (x, .inr (ci, vs.set k u))) → va_S Ad s.heap H1 locs1 → rk_KW p l e R s m args below meth c Q (pc + 3) ls [] H1 locs1 0 0 := fun H1 locs1 hP1 hD1 hS1' => by
    refine kk vals rads H1 locs1 ls _ lc hH ⟨hv0, hr0, h3, _, by rw [rk_map_set hw]; exact h4, tk_A2_setR ?_ h5 hj, hP1, hD1, hS1', ⟨tk_un_tr hun.1 (tk_un_set (mods := [(t, tk_rg TY t k)]) hw hj (fun i hi => hpd i (fun z => hi (by rw [z]; exact List.mem_singleton.mpr rfl))) ⟨k, List.mem_singleton.mpr rfl⟩) (fun z hz => by rw [List.mem_singleton.mp hz]; exact hm), hstep vals rads ws j x _ _ u h9 hax hr0 h4 h7 (tk_ob_of h4 h5) hw hj gu (List.getElem?_set_self hkl) hpd hun.2⟩, fun z hz => tk_fk_oth h3 h4 h7 hw hj (List.mem_filter.mp hz).2 (h9 z (List.mem_filter.mp hz).1)⟩ hl hL trivial
    show tk_cl TY ro ads tw s t _
    unfold tk_cl
    rw [hT]
    refine ⟨_, rfl, by rw [List.length_set]; exact hvl, fun i f2 v2 hf2 hv2 => ?_⟩
    by_cases ei : k = i
    · subst ei
      rw [List.getElem?_set_self hkl] at hv2
      cases hv2
      rw [hf] at hf2
      cases hf2
      exact hfv.1
    · rw [List.getElem?_set_ne ei] at hv2
      exact hvs i f2 v2 hf2 hv2
  have hr := hlk _ (rk_lk_mem hlk1)
  obtain ⟨tf, htf, htk⟩ := Option.bind_eq_some_iff.mp hft
  rcases hkd with rfl | rfl
  · obtain ⟨q, hq, hkN, hm1⟩ := hr
    obtain ⟨c1, c2, -, tf', htf', hlenT, hT2⟩ := hcl _ _ hq
    cases htf.symm.trans htf'
    obtain ⟨t1, t2⟩ := hT2 k ft htk
    exact va_put (C := q.1) (T := q.2.1) (N := q.2.2) hx hb hts c1 _ (rk_ty hlenT hT2) c2 hown hK h6 h7 h8 j hw hq k hkN (hts _ hm1) (fun _ h9 => h9) (t2.trans hft2) t1 hn hfi hkl hdg fin
  · obtain ⟨q, host, hq, hkN, hm1⟩ := hr
    obtain ⟨c1, c2, -, tf', htf', hlenT, hT2⟩ := hcl _ _ hq
    cases htf.symm.trans htf'
    obtain ⟨t1, t2⟩ := hT2 k ft htk
    exact va_putN (C := q.1) (T := q.2.1) (N := q.2.2) hx hb hts c1 _ (rk_ty hlenT hT2) c2 hown hK h6 h7 h8 j hw hq k hkN (va_Nw.use rfl (hxw _ hm1)) (fun _ h9 => h9) (t2.trans hft2) t1 hn hfi hkl hdg fin
end TKHS
