/-! ===== tk: System.arraycopy, Math ===== -/
def tk_cpr (env : List tk_I) (s n : tk_V) (N : Nat) : Bool := match tk_iv env s, tk_iv env n with
  | some I, some J => decide (0 ≤ I.1) && (decide (0 ≤ J.1) && decide (I.2 + J.2 ≤ (N : Int)))
  | _, _ => false
theorem tk_cpr_ok {env : List tk_I} {vals : List Int} {s n : tk_V} {N : Nat} {x y : Int32} (hE : tk_E env vals) (hs : tk_num vals s = some x.toInt) (hn : tk_num vals n = some y.toInt) (h : tk_cpr env s n N = true) : ¬ x < 0 ∧ ¬ y < 0 ∧ x.toNatClampNeg + y.toNatClampNeg ≤ N := by
  unfold tk_cpr at h
  split at h
  · next I J hI hJ =>
    have p1 := tk_iv_ok hE hs hI
    have p2 := tk_iv_ok hE hn hJ
    rw [Bool.and_eq_true, Bool.and_eq_true, decide_eq_true_eq, decide_eq_true_eq, decide_eq_true_eq] at h
    have z0 : (0 : Int32).toInt = 0 := rfl
    refine ⟨fun q => ?_, fun q => ?_, ?_⟩
    · have := Int32.lt_iff_toInt_lt.mp q
      omega
    · have := Int32.lt_iff_toInt_lt.mp q
      omega
    · show x.toInt.toNat + y.toInt.toNat ≤ N
      omega
  · cases h
theorem tk_rg_none {TY : tk_TT} {t : Nat} (h : (TY.2.2.1 t).isNone = true) (i : Nat) : tk_rg TY t i = 0 := by
  unfold tk_rg
  split
  · rfl
  · next g e => rw [e] at h; cases h
/-- a fact that stays where any place of type t is written -/
def tk_kpa (rf : List Nat) (t : Nat) (q : Nat × tk_V × tk_V) : Bool := match rf[q.1]? with
  | some t' => !(Nat.beq t' t)
  | none => false
theorem tk_fk_oth {Ad : Nat → Prop} {ads tw : List Nat} {rf : List Nat} {vals : List Int} {rads : List Nat} {ws : va_W} {q : Nat × tk_V × tk_V} {j x t : Nat} {e e' : va_E} (h3 : rk_A2 (fun t y => tk_ty ads tw t y) rf rads) (h4 : ws.map Prod.fst = ads) (h7 : va_D Ad ws) (hw : ws[j]? = some (x, e)) (hj : tw[j]? = some t) (hk : tk_kpa rf t q = true) (h : tk_fk vals rads ws q) : tk_fk vals rads (ws.set j (x, e')) q := by
  obtain ⟨y, j', i, e2, v, g1, g2, g3, g4, g5⟩ := h
  by_cases ej : j = j'
  · subst ej
    rw [hw] at g3
    cases g3
    obtain ⟨t', ht', j2, hj2, hj3⟩ := h3.getR g1
    rw [← h4, List.getElem?_map] at hj2
    obtain ⟨z, hz, ez⟩ := Option.map_eq_some_iff.mp hj2
    have e2 := h7.1 j2 j z _ hz hw ez
    subst e2
    rw [hj] at hj3
    cases hj3
    unfold tk_kpa at hk
    rw [ht'] at hk
    have hk : (!(Nat.beq t t)) = true := hk
    rw [show Nat.beq t t = true from Nat.beq_refl t] at hk
    cases hk
  · exact ⟨y, j', i, e2, v, g1, g2, by rw [List.getElem?_set_ne ej]; exact g3, g4, g5⟩
def tk_f_cpy (mods : List (Nat × Nat)) (TY : tk_TT) (pc : Nat) : tk_Fn := fun st => match st.2.1 with
  | n :: dp :: d :: sp :: a :: r => if n.1 = 0 ∧ dp.1 = 0 ∧ d.1 = 2 ∧ sp.1 = 0 ∧ a.1 = 2 ∧ tk_sum r ≤ 8 then (match st.2.2.2.1[a.2.1]?, st.2.2.2.1[d.2.1]? with
    | some t0, some t1 => (match TY.1[t0]?, TY.1[t1]? with
      | some (.inr (.int, n0, f0)), some (.inr (.int, n1, f1)) => if tk_cpr st.2.2.1.1 sp n n0 = true ∧ tk_cpr st.2.2.1.1 dp n n1 = true ∧ f0.1 = 0 ∧ f1.1 = 0 ∧ f1.2.1 ≤ f0.2.1 ∧ f0.2.2 ≤ f1.2.2 ∧ (TY.2.2.1 t1).isNone = true ∧ tk_mw TY mods t1 0 = true then some [(pc, (st.1, r, st.2.2.1, st.2.2.2.1, st.2.2.2.2.filter (tk_kpa st.2.2.2.1 t1)))] else none
      | some (.inr (.long, n0, f0)), some (.inr (.long, n1, f1)) => if tk_cpr st.2.2.1.1 sp n n0 = true ∧ tk_cpr st.2.2.1.1 dp n n1 = true ∧ f0.1 = 1 ∧ f1.1 = 1 ∧ f1.2.1 ≤ f0.2.1 ∧ f0.2.2 ≤ f1.2.2 ∧ (TY.2.2.1 t1).isNone = true ∧ tk_mw TY mods t1 0 = true then some [(pc, (st.1, r, st.2.2.1, st.2.2.2.1, st.2.2.2.2.filter (tk_kpa st.2.2.2.1 t1)))] else none
      | _, _ => none)
    | _, _ => none) else none
  | _ => none
def tk_f_mm (k : Nat) (c1 c2 : ClassFile.Cond) (pc : Nat) : tk_Fn := fun st => match st.2.1 with
  | b :: a :: r => if a.1 = k ∧ b.1 = k ∧ tk_sum r ≤ 8 then some (tk_ws pc st.1 (a :: r) st.2.2.2 (tk_cond c1 st.2.2.1 a b) ++ tk_ws pc st.1 (b :: r) st.2.2.2 (tk_cond c2 st.2.2.1 a b)) else none
  | _ => none
def tk_negs (pc : Nat) (lo : List (Nat × tk_V)) (a : tk_V) (r : List tk_V) (rest : List Nat × tk_FA) : List tk_W → Option (List (Nat × tk_S))
  | [] => some []
  | w :: ws => match tk_subv 0 w.1 (0, 0, 0, 0) a, tk_negs pc lo a r rest ws with
    | some q, some l => some ((pc, (lo, q.1 :: r, (q.2, w.2), rest)) :: l)
    | _, _ => none
theorem tk_negs_mem {pc : Nat} {lo : List (Nat × tk_V)} {a : tk_V} {r : List tk_V} {rest : List Nat × tk_FA} {w : tk_W} : ∀ {ws : List tk_W} {l : List (Nat × tk_S)}, tk_negs pc lo a r rest ws = some l → w ∈ ws → ∃ q, tk_subv 0 w.1 (0, 0, 0, 0) a = some q ∧ (pc, (lo, q.1 :: r, (q.2, w.2), rest)) ∈ l := by
  intro ws
  induction ws with
  | nil => intro l _ h; exact absurd h List.not_mem_nil
  | cons w0 ws ih =>
    intro l h hw
    unfold tk_negs at h
    split at h
    · next q l0 hq hl =>
      cases h
      rcases List.mem_cons.mp hw with rfl | hw
      · exact ⟨q, hq, List.mem_cons_self⟩
      · obtain ⟨q2, g1, g2⟩ := ih hl hw
        exact ⟨q2, g1, List.mem_cons_of_mem _ g2⟩
    · cases h
def tk_f_abs (pc : Nat) : tk_Fn := fun st => match st.2.1 with
  | a :: r => if a.1 = 0 ∧ tk_sum r ≤ 8 then (match tk_negs pc st.1 a r st.2.2.2 (tk_cond .lt st.2.2.1 a (0, 0, 0, 0)) with
    | some l => some (tk_ws pc st.1 (a :: r) st.2.2.2 (tk_cond .ge st.2.2.1 a (0, 0, 0, 0)) ++ l)
    | none => none) else none
  | _ => none
section TKN
variable {p : Program} {l : Launch} {e : Env} {R : Room} {s : State} {m : MethodId} {args : Array Value} {below : List Frame} {meth : Method} {c : Code} {Q : State → Prop} {cc : ByteArray} {D : va_G} {cl : List vw_C} {Ad : Nat → Prop} {nL : Nat} {vals0 : List Int} {rads0 : List Nat}
variable {mods : List (Nat × Nat)} {ws0 : va_W} {tbl xw : List Jvm.Cond} {fty : rk_F} {cln : List String} {own : String} {lk : List (Nat × Nat × Nat × Nat)} {cs : List (Nat × Value)} {TY : tk_TT} {ro : Nat → Nat → Int → Prop} {X : va_W → Prop} {ads tw : List Nat}
set_option maxHeartbeats 4000000 in
theorem tk_cpy_ok (hx : p.tables.exec = Jvm.exec) (hb : c.code = cc) (hml : c.maxLocals = nL) (hF : rk_Fr s m args meth D cl Ad tbl xw fty cln own lk cs) (hfr : 1 ≤ R.frames) (hlo : 40 ≤ R.locals) (hkk : ∀ r ∈ lk, rk_kok tbl own r) {pc idx a0 a1 : Nat} {st : tk_S} {res : List (Nat × tk_S)} (hlk1 : rk_lk lk idx = some (12, a0, a1)) (hdg : decode cc pc = .ok (.invokestatic idx, 3)) (hXs : tk_xs TY X ads tw) (h : tk_f_cpy mods TY (pc + 3) st = some res) (kk : ∀ q ∈ res, tk_St (rk_KW p l e R s m args below meth c Q) nL (tk_hr mods ws0 TY ro X ads tw s D cl Ad vals0 rads0) q.1 q.2) : tk_St (rk_KW p l e R s m args below meth c Q) nL (tk_hr mods ws0 TY ro X ads tw s D cl Ad vals0 rads0) pc st := by
  obtain ⟨hts, hxw, hown, hK, hA, hcl, hlk, hini, hac, hcs⟩ := hF
  obtain ⟨w1, w2, w3, w4⟩ := hkk _ (rk_lk_mem hlk1) rfl
  have hnf : nativeFrameWords "java/lang/System" "arraycopy" 5 ≤ 20 := by decide +kernel
  obtain ⟨lo, sk, w, rf, fa⟩ := st
  intro vals rads H locs ls stk lc hH hR hl hL hS
  dsimp only at hH hR hL hS
  unfold tk_f_cpy at h
  split at h
  · next n dp d sp a r e1 =>
    dsimp only at e1
    subst e1
    split at h
    · next hk =>
      obtain ⟨k1, k2, k3, k4, k5, hsum⟩ := hk
      split at h
      · next t0 t1 ht0 ht1 =>
        dsimp only at ht0 ht1
        obtain ⟨vn, j1, rfl, gn, hSa⟩ := hS.cons
        obtain ⟨vd, j2, rfl, gdp, hSb⟩ := hSa.cons
        obtain ⟨vo, j3, rfl, gd, hSc⟩ := hSb.cons
        obtain ⟨vs, j4, rfl, gsp, hSd⟩ := hSc.cons
        obtain ⟨va, j5, rfl, ga, hSe⟩ := hSd.cons
        rw [tk_sum_ok hSe] at hsum
        obtain ⟨xn, rfl, nn⟩ := tk_g0 gn k1
        obtain ⟨xd, rfl, nd⟩ := tk_g0 gdp k2
        obtain ⟨xs, rfl, ns⟩ := tk_g0 gsp k4
        obtain ⟨y1, hd1, rfl⟩ := tk_g2 gd k3
        obtain ⟨y0, hd0, rfl⟩ := tk_g2 ga k5
        obtain ⟨hv0, hr0, h3, ws, h4, h5, h6, h7, h8, hun, h9⟩ := id hR
        obtain ⟨x', hax', hty0⟩ := h3.get ht0
        rw [hd0] at hax'; cases hax'
        obtain ⟨x', hax', hty1⟩ := h3.get ht1
        rw [hd1] at hax'; cases hax'
        obtain ⟨q0, e0, hw0, hj0, hc0⟩ := tk_cell h4 h5 hty0
        obtain ⟨q1, e1, hw1, hj1, hc1⟩ := tk_cell h4 h5 hty1
        unfold tk_cl at hc0 hc1
        split at h
        · next n0 f0 n1 f1 hT0 hT1 =>
          rw [hT0] at hc0
          rw [hT1] at hc1
          split at h
          · next hc =>
            cases h
            obtain ⟨c1, c2, c3, c4, c5, c6, c7, c8⟩ := hc
            obtain ⟨cA0, hA01, hA02, f, rfl, hf⟩ := hc0
            obtain ⟨cA1, hA11, hA12, g, rfl, hg⟩ := hc1
            obtain ⟨b1, b2, b3⟩ := tk_cpr_ok hH.1 ns nn c1
            obtain ⟨b4, b5, b6⟩ := tk_cpr_ok hH.1 nd nn c2
            have hK2 : va_K D cl [(cA0, .int), (cA1, .int)] s := (rk_K1 hK hA01 hA02).app (rk_K1 hK hA11 hA12)
            refine va_copyi (ty := .int) hx hb (by rw [hml]; exact hl.1.symm) hown (hts _ w1) (hts _ w2) (hts _ w3) (hts _ w4) hK2 h6 h7 h8 q0 q1 0 1 hw0 hw1 rfl rfl rfl b1 b4 b2 b3 b6 (fun _ _ => rfl) hfr (by omega) hdg (fun H1 locs1 hP1 hD1 hS1 => ?_)
            refine kk _ (List.mem_singleton.mpr rfl) vals rads H1 locs1 ls _ lc hH ⟨hv0, hr0, h3, _, by rw [rk_map_set hw1]; exact h4, tk_A2_setR ?_ h5 hj1, hP1, hD1, hS1, tk_ux_set hXs hun hw1 hj1 c8 (fun i hi => absurd (tk_rg_none c7 i) hi) ⟨0, tk_rg_none c7 0⟩, fun z hz => tk_fk_oth h3 h4 h7 hw1 hj1 (List.mem_filter.mp hz).2 (h9 z (List.mem_filter.mp hz).1)⟩ hl hL hSe
            show tk_cl TY ro ads tw s t1 _
            unfold tk_cl
            rw [hT1]
            refine ⟨cA1, hA11, hA12, _, rfl, fun i hi => ?_⟩
            by_cases hin : xd.toNatClampNeg ≤ i ∧ i < xd.toNatClampNeg + xn.toNatClampNeg
            · rw [pk_cpy_in hin.1 hin.2]
              have := hf (xs.toNatClampNeg + (i - xd.toNatClampNeg)) (by show _ < n0; omega)
              unfold tk_fv at this ⊢
              dsimp only at this ⊢
              rw [c3] at this
              rw [c4]
              obtain ⟨z, e9, u1, u2⟩ := this
              exact ⟨z, e9, by omega, by omega⟩
            · rw [pk_cpy_out (by omega)]
              exact hg i hi
          · cases h
        · next n0 f0 n1 f1 hT0 hT1 =>
          rw [hT0] at hc0
          rw [hT1] at hc1
          split at h
          · next hc =>
            cases h
            obtain ⟨c1, c2, c3, c4, c5, c6, c7, c8⟩ := hc
            obtain ⟨cA0, hA01, hA02, f, rfl, hf⟩ := hc0
            obtain ⟨cA1, hA11, hA12, g, rfl, hg⟩ := hc1
            obtain ⟨b1, b2, b3⟩ := tk_cpr_ok hH.1 ns nn c1
            obtain ⟨b4, b5, b6⟩ := tk_cpr_ok hH.1 nd nn c2
            have hK2 : va_K D cl [(cA0, .long), (cA1, .long)] s := (rk_K1 hK hA01 hA02).app (rk_K1 hK hA11 hA12)
            refine va_copyl (ty := .long) hx hb (by rw [hml]; exact hl.1.symm) hown (hts _ w1) (hts _ w2) (hts _ w3) (hts _ w4) hK2 h6 h7 h8 q0 q1 0 1 hw0 hw1 rfl rfl rfl b1 b4 b2 b3 b6 (fun _ _ => rfl) hfr (by omega) hdg (fun H1 locs1 hP1 hD1 hS1 => ?_)
            refine kk _ (List.mem_singleton.mpr rfl) vals rads H1 locs1 ls _ lc hH ⟨hv0, hr0, h3, _, by rw [rk_map_set hw1]; exact h4, tk_A2_setR ?_ h5 hj1, hP1, hD1, hS1, tk_ux_set hXs hun hw1 hj1 c8 (fun i hi => absurd (tk_rg_none c7 i) hi) ⟨0, tk_rg_none c7 0⟩, fun z hz => tk_fk_oth h3 h4 h7 hw1 hj1 (List.mem_filter.mp hz).2 (h9 z (List.mem_filter.mp hz).1)⟩ hl hL hSe
            show tk_cl TY ro ads tw s t1 _
            unfold tk_cl
            rw [hT1]
            refine ⟨cA1, hA11, hA12, _, rfl, fun i hi => ?_⟩
            by_cases hin : xd.toNatClampNeg ≤ i ∧ i < xd.toNatClampNeg + xn.toNatClampNeg
            · rw [pk_cpy_in hin.1 hin.2]
              have := hf (xs.toNatClampNeg + (i - xd.toNatClampNeg)) (by show _ < n0; omega)
              unfold tk_fv at this ⊢
              dsimp only at this ⊢
              rw [c3] at this
              rw [c4]
              obtain ⟨z, e9, u1, u2⟩ := this
              exact ⟨z, e9, by omega, by omega⟩
            · rw [pk_cpy_out (by omega)]
              exact hg i hi
          · cases h
        · cases h
      · cases h
    · cases h
  · cases h
theorem tk_mm_i (hx : p.tables.exec = Jvm.exec) (hb : c.code = cc) (hml : c.maxLocals = nL) (hF : rk_Fr s m args meth D cl Ad tbl xw fty cln own lk cs) (hfr : 1 ≤ R.frames) (hlo : 40 ≤ R.locals) {pc idx a0 a1 : Nat} {st : tk_S} {res : List (Nat × tk_S)} (hlk1 : rk_lk lk idx = some (14, a0, a1)) (hdg : decode cc pc = .ok (.invokestatic idx, 3)) (h : tk_f_mm 0 .ge .lt (pc + 3) st = some res) (kk : ∀ q ∈ res, tk_St (rk_KW p l e R s m args below meth c Q) nL (tk_hr mods ws0 TY ro X ads tw s D cl Ad vals0 rads0) q.1 q.2) : tk_St (rk_KW p l e R s m args below meth c Q) nL (tk_hr mods ws0 TY ro X ads tw s D cl Ad vals0 rads0) pc st := by
  obtain ⟨hts, hxw, hown, hK, hA, hcl, hlk, hini, hac, hcs⟩ := hF
  obtain ⟨w1, w2, w3, w4⟩ := hlk _ (rk_lk_mem hlk1)
  obtain ⟨lo, sk, w, rf, fa⟩ := st
  intro vals rads H locs ls stk lc hH hR hl hL hS
  dsimp only at hH hR hL hS
  unfold tk_f_mm at h
  split at h
  · next b a r e1 =>
    dsimp only at e1
    subst e1
    split at h
    · next hk =>
      cases h
      obtain ⟨vb, k1, rfl, gb, hS1⟩ := hS.cons
      obtain ⟨va, k2, rfl, ga, hS2⟩ := hS1.cons
      obtain ⟨x, rfl, hx1⟩ := tk_g0 ga hk.1
      obtain ⟨y, rfl, hy1⟩ := tk_g0 gb hk.2.1
      have hsum := hk.2.2
      rw [tk_sum_ok hS2] at hsum
      refine va_mmax hx hb (by rw [hml]; exact hl.1.symm) hown (hts _ w1) (hts _ w2) (hts _ w3) (hts _ w4) hfr (by omega) (Nat.zero_le _) (Nat.zero_le _) hdg ?_
      split
      · next hlt =>
        obtain ⟨w', h1, h2⟩ := tk_cond_ok .lt hH hx1 hy1 (Int32.lt_iff_toInt_lt.mp hlt)
        exact tk_ws_ok h1 (fun z hz => List.mem_append_right _ hz) kk vals rads H locs ls _ lc h2 hR hl hL ⟨gb, hS2⟩
      · next hlt =>
        obtain ⟨w', h1, h2⟩ := tk_cond_ok .ge hH hx1 hy1 (show y.toInt ≤ x.toInt from Int.not_lt.mp (fun z => hlt (Int32.lt_iff_toInt_lt.mpr z)))
        exact tk_ws_ok h1 (fun z hz => List.mem_append_left _ hz) kk vals rads H locs ls _ lc h2 hR hl hL ⟨ga, hS2⟩
    · cases h
  · cases h
theorem tk_mn_i (hx : p.tables.exec = Jvm.exec) (hb : c.code = cc) (hml : c.maxLocals = nL) (hF : rk_Fr s m args meth D cl Ad tbl xw fty cln own lk cs) (hfr : 1 ≤ R.frames) (hlo : 40 ≤ R.locals) {pc idx a0 a1 : Nat} {st : tk_S} {res : List (Nat × tk_S)} (hlk1 : rk_lk lk idx = some (15, a0, a1)) (hdg : decode cc pc = .ok (.invokestatic idx, 3)) (h : tk_f_mm 0 .le .gt (pc + 3) st = some res) (kk : ∀ q ∈ res, tk_St (rk_KW p l e R s m args below meth c Q) nL (tk_hr mods ws0 TY ro X ads tw s D cl Ad vals0 rads0) q.1 q.2) : tk_St (rk_KW p l e R s m args below meth c Q) nL (tk_hr mods ws0 TY ro X ads tw s D cl Ad vals0 rads0) pc st := by
  obtain ⟨hts, hxw, hown, hK, hA, hcl, hlk, hini, hac, hcs⟩ := hF
  obtain ⟨w1, w2, w3, w4⟩ := hlk _ (rk_lk_mem hlk1)
  obtain ⟨lo, sk, w, rf, fa⟩ := st
  intro vals rads H locs ls stk lc hH hR hl hL hS
  dsimp only at hH hR hL hS
  unfold tk_f_mm at h
  split at h
  · next b a r e1 =>
    dsimp only at e1
    subst e1
    split at h
    · next hk =>
      cases h
      obtain ⟨vb, k1, rfl, gb, hS1⟩ := hS.cons
      obtain ⟨va, k2, rfl, ga, hS2⟩ := hS1.cons
      obtain ⟨x, rfl, hx1⟩ := tk_g0 ga hk.1
      obtain ⟨y, rfl, hy1⟩ := tk_g0 gb hk.2.1
      have hsum := hk.2.2
      rw [tk_sum_ok hS2] at hsum
      refine va_mmin hx hb (by rw [hml]; exact hl.1.symm) hown (hts _ w1) (hts _ w2) (hts _ w3) (hts _ w4) hfr (by omega) (Nat.zero_le _) (Nat.zero_le _) hdg ?_
      split
      · next hlt =>
        obtain ⟨w', h1, h2⟩ := tk_cond_ok .gt hH hx1 hy1 (Int32.lt_iff_toInt_lt.mp hlt)
        exact tk_ws_ok h1 (fun z hz => List.mem_append_right _ hz) kk vals rads H locs ls _ lc h2 hR hl hL ⟨gb, hS2⟩
      · next hlt =>
        obtain ⟨w', h1, h2⟩ := tk_cond_ok .le hH hx1 hy1 (show x.toInt ≤ y.toInt from Int.not_lt.mp (fun z => hlt (Int32.lt_iff_toInt_lt.mpr z)))
        exact tk_ws_ok h1 (fun z hz => List.mem_append_left _ hz) kk vals rads H locs ls _ lc h2 hR hl hL ⟨ga, hS2⟩
    · cases h
  · cases h
theorem tk_mm_l (hx : p.tables.exec = Jvm.exec) (hb : c.code = cc) (hml : c.maxLocals = nL) (hF : rk_Fr s m args meth D cl Ad tbl xw fty cln own lk cs) (hfr : 1 ≤ R.frames) (hlo : 40 ≤ R.locals) {pc idx a0 a1 : Nat} {st : tk_S} {res : List (Nat × tk_S)} (hlk1 : rk_lk lk idx = some (16, a0, a1)) (hdg : decode cc pc = .ok (.invokestatic idx, 3)) (h : tk_f_mm 1 .gt .le (pc + 3) st = some res) (kk : ∀ q ∈ res, tk_St (rk_KW p l e R s m args below meth c Q) nL (tk_hr mods ws0 TY ro X ads tw s D cl Ad vals0 rads0) q.1 q.2) : tk_St (rk_KW p l e R s m args below meth c Q) nL (tk_hr mods ws0 TY ro X ads tw s D cl Ad vals0 rads0) pc st := by
  obtain ⟨hts, hxw, hown, hK, hA, hcl, hlk, hini, hac, hcs⟩ := hF
  obtain ⟨w1, w2, w3, w4⟩ := hlk _ (rk_lk_mem hlk1)
  obtain ⟨lo, sk, w, rf, fa⟩ := st
  intro vals rads H locs ls stk lc hH hR hl hL hS
  dsimp only at hH hR hL hS
  unfold tk_f_mm at h
  split at h
  · next b a r e1 =>
    dsimp only at e1
    subst e1
    split at h
    · next hk =>
      cases h
      obtain ⟨vb, k1, rfl, gb, hS1⟩ := hS.cons
      obtain ⟨va, k2, rfl, ga, hS2⟩ := hS1.cons
      obtain ⟨x, rfl, hx1⟩ := tk_g1 ga hk.1
      obtain ⟨y, rfl, hy1⟩ := tk_g1 gb hk.2.1
      have hsum := hk.2.2
      rw [tk_sum_ok hS2] at hsum
      refine va_mmax_long hx hb (by rw [hml]; exact hl.1.symm) hown (hts _ w1) (hts _ w2) (hts _ w3) (hts _ w4) hfr (by omega) (Nat.zero_le _) (Nat.zero_le _) hdg ?_
      split
      · next hlt =>
        obtain ⟨w', h1, h2⟩ := tk_cond_ok .gt hH hx1 hy1 (Int64.lt_iff_toInt_lt.mp hlt)
        exact tk_ws_ok h1 (fun z hz => List.mem_append_left _ hz) kk vals rads H locs ls _ lc h2 hR hl hL ⟨ga, hS2⟩
      · next hlt =>
        obtain ⟨w', h1, h2⟩ := tk_cond_ok .le hH hx1 hy1 (show x.toInt ≤ y.toInt from Int.not_lt.mp (fun z => hlt (Int64.lt_iff_toInt_lt.mpr z)))
        exact tk_ws_ok h1 (fun z hz => List.mem_append_right _ hz) kk vals rads H locs ls _ lc h2 hR hl hL ⟨gb, hS2⟩
    · cases h
  · cases h
theorem tk_abs_i (hx : p.tables.exec = Jvm.exec) (hb : c.code = cc) (hml : c.maxLocals = nL) (hF : rk_Fr s m args meth D cl Ad tbl xw fty cln own lk cs) (hfr : 1 ≤ R.frames) (hlo : 40 ≤ R.locals) {pc idx a0 a1 : Nat} {st : tk_S} {res : List (Nat × tk_S)} (hlk1 : rk_lk lk idx = some (17, a0, a1)) (hdg : decode cc pc = .ok (.invokestatic idx, 3)) (h : tk_f_abs (pc + 3) st = some res) (kk : ∀ q ∈ res, tk_St (rk_KW p l e R s m args below meth c Q) nL (tk_hr mods ws0 TY ro X ads tw s D cl Ad vals0 rads0) q.1 q.2) : tk_St (rk_KW p l e R s m args below meth c Q) nL (tk_hr mods ws0 TY ro X ads tw s D cl Ad vals0 rads0) pc st := by
  obtain ⟨hts, hxw, hown, hK, hA, hcl, hlk, hini, hac, hcs⟩ := hF
  obtain ⟨w1, w2, w3, w4⟩ := hlk _ (rk_lk_mem hlk1)
  obtain ⟨lo, sk, w, rf, fa⟩ := st
  intro vals rads H locs ls stk lc hH hR hl hL hS
  dsimp only at hH hR hL hS
  unfold tk_f_abs at h
  split at h
  · next a r e1 =>
    dsimp only at e1
    subst e1
    split at h
    · next hk =>
      split at h
      · next li hneg =>
        cases h
        obtain ⟨va, k2, rfl, ga, hS2⟩ := hS.cons
        obtain ⟨x, rfl, hx1⟩ := tk_g0 ga hk.1
        have hsum := hk.2
        rw [tk_sum_ok hS2] at hsum
        have hz : tk_num vals (0, 0, 0, 0) = some 0 := rfl
        refine va_mabs hx hb (by rw [hml]; exact hl.1.symm) hown (hts _ w1) (hts _ w2) (hts _ w3) (hts _ w4) hfr (by omega) (Nat.zero_le _) (Nat.zero_le _) hdg ?_
        split
        · next hle =>
          obtain ⟨w', h1, h2⟩ := tk_cond_ok .ge hH hx1 hz (show (0 : Int) ≤ x.toInt from Int32.le_iff_toInt_le.mp hle)
          exact tk_ws_ok h1 (fun z hz => List.mem_append_left _ hz) kk vals rads H locs ls _ lc h2 hR hl hL ⟨ga, hS2⟩
        · next hle =>
          obtain ⟨w', h1, h2⟩ := tk_cond_ok .lt hH hx1 hz (show x.toInt < (0 : Int) from Int.not_le.mp (fun z => hle (Int32.le_iff_toInt_le.mpr z)))
          obtain ⟨q, g1, g2⟩ := tk_negs_mem hneg h1
          have := tk_subv_ok h2.1 (show tk_num vals (0, 0, 0, 0) = some (0 : Int32).toInt from rfl) hx1 g1
          rw [← tk_w_sub] at this
          exact tk_finI tk_hr_gr (fun z hz => kk z (by rw [List.mem_singleton.mp hz]; exact List.mem_append_right _ g2)) this h2.2 hR hl hL hS2
      · cases h
    · cases h
  · cases h
end TKN
