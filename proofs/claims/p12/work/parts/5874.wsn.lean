/-! ===== names, tapes, faults: each call of both told ===== -/
section WSN
variable {l : Launch} {D : va_G} {xt : tk_XT} {ads : List Nat}
theorem cx_of {k f : Nat} {as : List Value} {v : Option Value} {g g' : Nat → Nat → Int32} {l' l'' : Nat → Nat → Int64} {a a' : Nat → Nat → Int32} {b b' : Nat → Nat → Int64} {R : (Nat → fx_E) × fx_M} (h : hr_T k f as (cm g l' a b (cR g l' a b R)) v (cm g' l'' a' b' (cR g l' a b R))) (hk : ∀ j, 67 ≤ j → g' j = g j ∧ a' j = a j ∧ b' j = b j) : hr_T k f as (cx g l' a b R) v (cx g' l'' a' b' R) := by
  unfold cx
  rw [cR_eq (l := l') (l' := l'') hk]
  exact h
theorem av2 {e1 e2 : tk_I} {rest : List Value} (h : rk_A2 lq_av ([0, 0].zip [e1, e2]) rest) : ∃ v0 v1 : Int32, rest = [.int v0, .int v1] := by
  obtain ⟨x0, r0, rfl, k0⟩ := av_int (show rk_A2 lq_av ((0, e1) :: [(0, e2)]) rest from h)
  obtain ⟨x1, r1, rfl, k1⟩ := av_int k0
  obtain rfl := k1.nil
  exact ⟨x0, x1, rfl⟩
abbrev KC (l : Launch) (D : va_G) (xt : tk_XT) (ads : List Nat) (f : Nat) (kinds : List Nat) (envs : List tk_I) (W : List (Nat × Nat)) : Prop := lw_sem l D xt gc_TY h3_X ads lw_twC 20 f kinds envs (lw_unQ 0 W)
abbrev HS (xt : tk_XT) : Prop := ∀ (Ad : Nat → Prop) (U : State) (H : Heap), xt Ad U H → ∃ pl v tx, sk_X pl v Ad U H ∧ vk_R "GooseIceModel" 189 tx pl U
theorem mk_row {g1 g2 : Nat → Int32} {t1 t2 u1 u2 : Int64} {a1 a2 : Nat → Nat → Int32} {b1 b2 : Nat → Nat → Int64} {t n : Nat} {ty : FieldType} (em : fm g1 t1 u1 a1 b1 = fm g2 t2 u2 a2 b2) (k1 : (fm g1 t1 u1 a1 b1)[t]? = some (.inr (ty, n, .inl (a1 t)))) (k2 : (fm g2 t2 u2 a2 b2)[t]? = some (.inr (ty, n, .inl (a2 t)))) : a1 t = a2 t := by
  rw [em, k2] at k1
  injection k1 with k1
  injection k1 with k1
  injection k1 with _ k1
  injection k1 with _ k1
  injection k1 with k1
  exact k1.symm
theorem mk_rowL {g1 g2 : Nat → Int32} {t1 t2 u1 u2 : Int64} {a1 a2 : Nat → Nat → Int32} {b1 b2 : Nat → Nat → Int64} (em : fm g1 t1 u1 a1 b1 = fm g2 t2 u2 a2 b2) : b1 2 = b2 2 := by
  have k1 : (fm g1 t1 u1 a1 b1)[2]? = some (.inr (.long, 108, .inr (.inl (b1 2)))) := rfl
  have k2 : (fm g2 t2 u2 a2 b2)[2]? = some (.inr (.long, 108, .inr (.inl (b2 2)))) := rfl
  rw [em, k2] at k1
  injection k1 with k1
  injection k1 with k1
  injection k1 with _ k1
  injection k1 with _ k1
  injection k1 with k1
  injection k1 with k1
  exact k1.symm
/-! ===== the names stand ===== -/
def nmd (ws : va_W) : Prop := ∃ g a b A, cw_V ws g a b ∧ cn_L 15 A g b
def QCP (W : List (Nat × Nat)) (S : SC) : List Value → va_W → va_W → Value → Prop := fun av ws ws' v => lw_unQ 0 W av ws ws' v ∧ (nmd ws → ∃ g a b g' a' b', cw_V ws g a b ∧ cw_V ws' g' a' b' ∧ S av g a b g' a' b' v)
theorem QCP_int {W : List (Nat × Nat)} {S : SC} {av : List Value} {c0 c1 : va_W} {v : Value} (h : QCP W S av c0 c1 v) : lr_ty 0 v := h.1.1
theorem mapfst {α β : Type} {y : β} (f : List α) : (f.map (fun L => (L, y))).map Prod.fst = f := by
  rw [List.map_map]
  exact List.map_id f
theorem WR_nmd {c m : va_W} (h : WR c m) : nmd c := by
  obtain ⟨g, a, b, gm, am, bm, k1, -, k3⟩ := h
  obtain ⟨⟨nC, nW, ⟨l1, l2⟩, ⟨e1, e2, e3, e4⟩, -⟩, -⟩ := k3.2.2.2.1
  refine ⟨g, a, b, ((nC.map (fun L => (L, true)), nW.map (fun L => (L, 1))), (fun _ => 0), (fun _ => 0)), k1, ?_⟩
  have m1 : (nC.map (fun L => (L, true))).length = nC.length := List.length_map _
  have m2 : (nW.map (fun L => (L, 1))).length = nW.length := List.length_map _
  exact ⟨by rw [m1]; exact e1, by rw [m1]; exact l1, by rw [m2]; exact e2, by rw [m2]; exact l2, by rw [mapfst]; exact e3, by rw [mapfst]; exact e4⟩
theorem both_relN {W : List (Nat × Nat)} {S1 : SC} {S2 : SM} {av av2 : List Value} {c0 m0 c1 m1 : va_W} {u w : Value} {P : Prop} (hR : WR c0 m0) (h1 : QCP W S1 av c0 c1 u) (h2 : QM S2 av2 m0 m1 w) (hS : ∀ g a b g' a' b' gm am bm gm' am' bm', wrE g a b gm am bm → fm_I gm am → (∀ z ∈ W, z ∈ cw_LO → g' z.1 z.2 = g z.1 z.2) → S1 av g a b g' a' b' u → S2 av2 gm am bm gm' am' bm' w → P ∧ wrE g' a' b' gm' am' bm') : P ∧ WR c1 m1 := by
  obtain ⟨h0, hh⟩ := h1
  obtain ⟨g, a, b, g', a', b', k1, k2, k3⟩ := hh (WR_nmd hR)
  exact both_rel (S1 := S1) hR ⟨h0, g, a, b, g', a', b', k1, k2, k3⟩ h2 hS
/-- a call of the class, typed, and exact where the names stand -/
theorem cx_semN (hxt : tk_xtok xt) {k f : Nat} {kinds : List Nat} {envs : List tk_I} {Q0 : List Value → va_W → va_W → Value → Prop} {S : SC} (hd : k + 4 ≤ 20) (hK : lw_sem l D xt gc_TY h3_X ads lw_twC 20 f kinds envs Q0)
    (hex : ∀ (rest : List Value) (g : Nat → Nat → Int32) (l' : Nat → Nat → Int64) (a : Nat → Nat → Int32) (b : Nat → Nat → Int64) (R : (Nat → fx_E) × fx_M) (A : sp_A), rk_A2 lq_av (kinds.zip envs) rest → cx_in g a b → cn_L 15 A g b → ∃ (v : Value) (g' : Nat → Nat → Int32) (l'' : Nat → Nat → Int64) (a' : Nat → Nat → Int32) (b' : Nat → Nat → Int64), fx_kd v ≤ 1 ∧ hr_T k f (.ref 0 :: rest) (cx g l' a b R) (some v) (cx g' l'' a' b' R) ∧ S rest g a b g' a' b' v) : lw_sem l D xt gc_TY h3_X ads lw_twC 20 f kinds envs (fun av ws ws' v => Q0 av ws ws' v ∧ (nmd ws → ∃ g a b g' a' b', cw_V ws g a b ∧ cw_V ws' g' a' b' ∧ S av g a b g' a' b' v)) := by
  refine lw_sem_imp (hc_sem2P (P := fun _ ws => nmd ws) (Q1 := fun rest ws mem' v => ∃ (g a g' : Nat → Nat → Int32) (b : Nat → Nat → Int64) (l'' : Nat → Nat → Int64) (a' : Nat → Nat → Int32) (b' : Nat → Nat → Int64) (R : (Nat → fx_E) × fx_M), cw_V ws g a b ∧ mem' = cx g' l'' a' b' R ∧ S rest g a b g' a' b' v) hxt hd hK (fun U ax rest ws hty hrest h5 h4 hD hX hP => ?_)) ?_
  · have hA : ∃ A, cn_L 15 A (cg ws) (cb ws) := by
      obtain ⟨g0, a0, b0, A, hV0, p1, p2, p3, p4, p5, p6⟩ := hP
      have hag := cw_un hV0 (cw_in h5)
      have m1 : (A.1.1.map Prod.fst).length = A.1.1.length := List.length_map _
      have m2 : (A.1.2.map Prod.fst).length = A.1.2.length := List.length_map _
      exact ⟨A, (hag.1 (15, 8) (by decide)).symm.trans p1, p2, (hag.1 (26, 7) (by decide)).symm.trans p3, p4, sp_nC_un p5 (fun i hi => (hag.2.2 (16, 10) (by decide) i (by show i < 10; omega)).symm), sp_nC_un p6 (fun i hi => (hag.2.2 (27, 8) (by decide) i (by show i < 8; omega)).symm)⟩
    obtain ⟨A, hA⟩ := hA
    have hcx := hc_cx h4 h5 hD hX.1.1.2 hX.2
    generalize (hc_q ads ws, (hc_mem ads lw_twC ws).drop 270) = R0 at hcx

    have hin : cx_in (cg ws) (ca ws) (cb ws) := by
      refine ⟨hc_bdI h5 (show lw_twC[14]? = some 11 by decide +kernel) rfl, ⟨(hc_fB h5 (show lw_twC[9]? = some 6 by decide +kernel) rfl rfl).2, (hc_fB h5 (show lw_twC[0]? = some 0 by decide +kernel) rfl rfl).2, (hc_fB h5 (show lw_twC[15]? = some 12 by decide +kernel) rfl rfl).2, (hc_fB h5 (show lw_twC[26]? = some 23 by decide +kernel) rfl rfl).2⟩, hc_bdB h5 (show lw_twC[10]? = some 7 by decide +kernel) rfl, ⟨hc_bdI h5 (show lw_twC[17]? = some 14 by decide +kernel) rfl, fun o ho => by
        rcases ho with rfl | rfl | rfl | rfl
        · exact i01 (hc_fB h5 (show lw_twC[34]? = some 31 by decide +kernel) rfl rfl).2
        · exact i01 (hc_fB h5 (show lw_twC[211]? = some 84 by decide +kernel) rfl rfl).2
        · exact i01 (hc_fB h5 (show lw_twC[237]? = some 84 by decide +kernel) rfl rfl).2
        · exact i01 (hc_fB h5 (show lw_twC[263]? = some 84 by decide +kernel) rfl rfl).2⟩, fun k w hw => ?_⟩
      have hk : k < 23 := (List.getElem?_eq_some_iff.mp hw).1
      have h1 := hX.1.2 k w hw
      obtain ⟨q11, k11⟩ : ∃ q, ws[11]? = some q := ⟨_, List.getElem?_eq_getElem (by rw [h5.len.symm, lw_lenC]; decide)⟩
      rw [hw_at0 (i := k) h4 h5 k11 (show (hc_mem ads lw_twC ws)[11]? = some (.inr (.long, 23, .inr (.inl (cb ws 11)))) by rw [hcx]; rfl)] at h1
      have h1 : (if k < 23 then some (Value.long (cb ws 11 k)) else none) = _ := h1
      rw [if_pos hk] at h1
      exact Value.long.inj (Option.some.inj h1)

    obtain ⟨v, g', l'', a', b', z1, z2, z3⟩ := hex rest (cg ws) (cl_ ws) (ca ws) (cb ws) R0 A hrest hin hA
    exact ⟨v, cx g' l'' a' b' R0, z1, by rw [hcx]; exact z2, cg ws, ca ws, g', cb ws, l'', a', b', R0, cw_in h5, rfl, z3⟩
  · rintro av ws ws' v - ⟨h0, hh⟩
    refine ⟨h0, fun hn => ?_⟩
    obtain ⟨mem', ⟨g, a, g', b, l'', a', b', R, h1, rfl, h3⟩, h8⟩ := hh hn
    exact ⟨g, a, b, g', a', b', h1, cw_out h8, h3⟩
/-! ===== feed ===== -/
theorem feC_sem (hxt : tk_xtok xt) {W : List (Nat × Nat)} (hK : KC l D xt ads 134 [0, 0, 0, 0, 0] [gn_i, gn_i, gn_i, gn_i, gn_i] W) : lw_sem l D xt gc_TY h3_X ads lw_twC 20 134 [0, 0, 0, 0, 0] [gn_i, gn_i, gn_i, gn_i, gn_i] (QC W feC) := by
  refine cx_sem (S := feC) (k := 2) hxt (by decide) hK (fun rest g l' a b R hr hin => ?_)
  obtain ⟨v0, v1, v2, v3, v4, rfl⟩ := av5 hr
  obtain ⟨s, hs, es⟩ := nI_bd (x := g 9 2) (n := 900) hin.2.1.1.1 hin.2.1.1.2
  by_cases h8 : s ≤ 880
  · obtain ⟨g', a', h1, h2, h3, h4, h5⟩ := ha_feed (g := g) (l := l') (a := a) (b := b) (R := cR g l' a b R) (v0 := v0) (v1 := v1) (v2 := v2) (v3 := v3) (v4 := v4) es h8
    exact ⟨.int (nI (s + 20)), g', l', a', b, Nat.zero_le 1, cx_of h1 (fun j hj => ⟨h4 j (by omega), h5 j (by omega), rfl⟩), s, v0, v1, v2, v3, v4, hs, es, rfl, Or.inl ⟨h8, h2, h3⟩, h4, rfl⟩
  · exact ⟨.int (-1), g, l', a, b, Nat.zero_le 1, cx_of (ha_feedN es (by omega) hs) (fun _ _ => ⟨rfl, rfl, rfl⟩), s, v0, v1, v2, v3, v4, hs, es, rfl, Or.inr ⟨by omega, es, rfl⟩, fun _ _ => rfl, rfl⟩

theorem feM_sem (hst : HS xt) : lw_sem l D xt gn_TY (gn_X lw_twM) ads lw_twM 6 219 [0, 0, 0, 0, 0] [gn_i, gn_i, gn_i, gn_i, gn_i] (QM feM) := by
  refine mx_sem (S := feM) (k := 2) (n := 5) hst gn_MF_ms (fun g tp bt a b xs hx hI => ?_)
  obtain ⟨s, hs, es⟩ := fm_I_10 hI
  obtain ⟨v0, r0, rfl, k0⟩ := fm_xsS hx
  obtain ⟨v1, r1, rfl, k1⟩ := fm_xsS k0
  obtain ⟨v2, r2, rfl, k2⟩ := fm_xsS k1
  obtain ⟨v3, r3, rfl, k3⟩ := fm_xsS k2
  obtain ⟨v4, r4, rfl, k4⟩ := fm_xsS k3
  obtain rfl := List.length_eq_zero_iff.mp k4
  by_cases h8 : s ≤ 880
  · obtain ⟨g', a', h1, h2, h3, h4, h5⟩ := ma_feed (g := g) (tp := tp) (bt := bt) (a := a) (b := b) (v0 := v0) (v1 := v1) (v2 := v2) (v3 := v3) (v4 := v4) es h8
    have hB : fm_B a' := fm_B_eq hI.2.1 (fun i => by rw [h5 1 (by decide)]) (fun i hi => by rw [h5 9 (by decide)]; exact hI.2.1.2.2 i hi)
    have hI2 : fm_I g' a' := ⟨fun q hq => by
      by_cases e : q.1 = 10
      · have e2 := gm_gf10 q hq e
        subst e2
        show (0 : Int) ≤ (g' 10).toInt ∧ (g' 10).toInt ≤ 900
        rw [h2, nI_i32 (by omega)]
        omega
      · rw [h3 q.1 e]
        exact hI.1 q hq, hB, fun q hq i hi => by
      by_cases e : q.1 = 6
      · have e2 := gm_ar6 q hq e
        subst e2
        show (-128 : Int) ≤ (a' 6 i).toInt ∧ (a' 6 i).toInt ≤ 127
        rw [h4]
        exact t20_bd (n := 900) (fun i hi => hI.2.2 (6, 900, (-128), 127) (by decide) i hi) i hi
      · rw [h5 q.1 e]
        exact hI.2.2 q hq i hi⟩
    have hF : fm_ffr gn_MF g a b g' a' b := ⟨fun k => by
      by_cases h : k = 10
      · subst h; exact Or.inl (List.mem_append_right _ (by decide))
      · exact Or.inr (h3 k h), fun t _ => by
      by_cases h : t = 6
      · subst h; exact Or.inl (List.mem_append_right _ (by decide))
      · exact Or.inr (h5 t h), fun t => Or.inr rfl⟩
    exact ⟨nI (s + 20), g', tp, bt, a', b, h1, hI2, hF, s, v0, v1, v2, v3, v4, hs, es, rfl, Or.inl ⟨h8, h2, h4⟩, h3, h5 1 (by decide), rfl⟩
  · exact ⟨-1, g, tp, bt, a, b, ma_feedN es (by omega) hs, hI, ⟨fun k => Or.inr rfl, fun t _ => Or.inr rfl, fun t => Or.inr rfl⟩, s, v0, v1, v2, v3, v4, hs, es, rfl, Or.inr ⟨by omega, es, rfl⟩, fun _ _ => rfl, rfl, rfl⟩

/-! ===== lake ===== -/
theorem laC_sem (hxt : tk_xtok xt) {W : List (Nat × Nat)} (hK : KC l D xt ads 135 [0] [gn_i] W) : lw_sem l D xt gc_TY h3_X ads lw_twC 20 135 [0] [gn_i] (QC W laC) := by
  refine cx_sem (S := laC) (k := 8) hxt (by decide) hK (fun rest g l' a b R hr hin => ?_)
  obtain ⟨x, r0, rfl, k0⟩ := av_int hr
  obtain rfl := k0.nil
  obtain ⟨v, g', l'', a', b', hrun, hh⟩ := ha_lake (g := g) (l := l') (a := a) (b := b) (R := cR g l' a b R) (x := x) hin.2.1.1 hin.2.2.1 hin.2.2.2.2
  rcases hh with ⟨hno, rfl, rfl, rfl, rfl, rfl⟩ | ⟨N, rfl, hN, h92, hm⟩
  · exact ⟨.int (-1), _, _, _, _, Nat.zero_le 1, cx_of hrun (fun j hj => ⟨fm_un (by omega), rfl, rfl⟩), x, rfl, rfl, fun j hj => ⟨fm_un (by omega), rfl⟩, Or.inl ⟨hno, rfl, fm_un (by decide), fm_un (by decide), fun j j1 j2 => ⟨fm_un (by omega), rfl⟩⟩⟩
  · cases hz : sp_lake (sp_T (a 10) N) N with
    | inl z =>
      rw [hz] at hm
      obtain ⟨rfl, -, -, f10, f11, hf⟩ := hm
      refine ⟨.int (-1), g', l'', a', b', Nat.zero_le 1, cx_of hrun (fun j hj => hf j (by omega) (by omega) (by omega) (by omega)), nI N, rfl, (hf 10 (by decide) (by decide) (by decide) (by decide)).2.1, fun j hj => ⟨(hf j (by omega) (by omega) (by omega) (by omega)).1, (hf j (by omega) (by omega) (by omega) (by omega)).2.2⟩, Or.inr ⟨N, rfl, hN, h92, ?_, ?_⟩⟩
      · rw [hz]; rfl
      · rw [hz]
        exact ⟨(hf 34 (by decide) (by decide) (by decide) (by decide)).1, fun j j1 j2 => ⟨(hf j (by omega) (by omega) (by omega) (by omega)).1, (hf j (by omega) (by omega) (by omega) (by omega)).2.2⟩, f10, f11⟩
    | inr z =>
      rw [hz] at hm
      obtain ⟨rfl, -, f10, f11, hcd, f34, hf⟩ := hm
      refine ⟨.int (nI z.1.1.1.length), g', l'', a', b', Nat.zero_le 1, cx_of hrun (fun j hj => hf j (by omega) (by omega) (by omega) (by omega)), nI N, rfl, (hf 10 (by decide) (by decide) (by decide) (by decide)).2.1, fun j hj => ⟨(hf j (by omega) (by omega) (by omega) (by omega)).1, (hf j (by omega) (by omega) (by omega) (by omega)).2.2⟩, Or.inr ⟨N, rfl, hN, h92, ?_, ?_⟩⟩
      · rw [hz]; rfl
      · rw [hz]
        exact ⟨hcd.1, f34, f10, f11⟩
theorem laM_sem (hst : HS xt) : lw_sem l D xt gn_TY (gn_X lw_twM) ads lw_twM 14 246 [0] [gn_i] (QM laM) := by
  refine mx_sem (S := laM) (k := 10) (n := 1) hst gn_M1_ms (fun g tp bt a b xs hx hI => ?_)
  obtain ⟨s, hs, es⟩ := fm_I_10 hI
  obtain ⟨x, r0, rfl, k0⟩ := fm_xsS hx
  obtain rfl := List.length_eq_zero_iff.mp k0
  obtain ⟨v, mem', hP, hf⟩ := fr_lake (g := g) (tp := tp) (bt := bt) (a := a) (b := b) (n := x) ⟨s, hs, es⟩
  obtain ⟨v, g', tp', bt', a', b', e, h1, h2⟩ := fm_I_FL hI hP
  cases e
  obtain ⟨v2, g2, a2, b2, hrun, hh⟩ := mr_lake (g := g) (tp := tp) (bt := bt) (a := a) (b := b) (x := x) (by rw [es, nI_i32 (by omega)]; omega) (fun k hk => hI.2.2 (6, 900, (-128), 127) (by decide) k hk)
  obtain ⟨d1, d2⟩ := fr_det hf hrun
  have ev : v = v2 := Value.int.inj (Option.some.inj d1)
  have e10 : g' 10 = g2 10 := Value.int.inj (Option.some.inj (fm_o_inj 10 d2))
  have e16 : g' 16 = g2 16 := Value.int.inj (Option.some.inj (fm_o_inj 16 d2))
  have e17 : g' 17 = g2 17 := Value.int.inj (Option.some.inj (fm_o_inj 17 d2))
  have e6 : a' 6 = a 6 := (h2.2.1 6 (by decide)).resolve_left (by decide +kernel)
  have e42 : g' 42 = g 42 := (h2.1 42).resolve_left (by decide +kernel)
  have ea1 : a' 1 = a2 1 := mk_row (n := 5894) (ty := .int) d2 rfl rfl
  have eb2 : b' 2 = b2 2 := mk_rowL d2
  rcases hh with ⟨hno, k1, k2, k3, k4⟩ | ⟨N, rfl, hN, h0, hm⟩
  · exact ⟨v, g', tp', bt', a', b', hf, h1, h2, x, rfl, e6, e42, fun i _ _ => by rw [ea1, k3], fun i _ _ => by rw [eb2, k4], Or.inl ⟨hno, by rw [ev, k1], ⟨by rw [e10, k2, pk_un (by decide)], by rw [e16, k2, pk_un (by decide)], by rw [e17, k2, pk_un (by decide)]⟩, by rw [ea1, k3], by rw [eb2, k4]⟩⟩
  · cases hz : sp_lake (sp_T (a 6) N) N with
    | inl z =>
      rw [hz] at hm
      obtain ⟨q1, -, -, q4, q5, q6, q7⟩ := hm
      refine ⟨v, g', tp', bt', a', b', hf, h1, h2, nI N, rfl, e6, e42, fun i i1 i2 => ?_, fun i i1 i2 => ?_, Or.inr ⟨N, rfl, hN, by rw [e10, h0], ?_, ?_⟩⟩
      · rw [ea1]; exact q6 i (by omega)
      · rw [eb2]; exact q7 i (by omega)
      · rw [hz, ev]; exact congrArg Value.int q1
      · rw [hz]
        exact ⟨fun i hi => by rw [ea1]; exact q6 i (by omega), fun i hi => by rw [eb2]; exact q7 i (by omega), by rw [e16]; exact q4, by rw [e17]; exact q5⟩
    | inr z =>
      rw [hz] at hm
      obtain ⟨q1, -, q3, q4, q5, q6, q7, q8⟩ := hm
      refine ⟨v, g', tp', bt', a', b', hf, h1, h2, nI N, rfl, e6, e42, fun i i1 i2 => ?_, fun i i1 i2 => ?_, Or.inr ⟨N, rfl, hN, by rw [e10, h0], ?_, ?_⟩⟩
      · rw [ea1]; exact q7 i (by omega) (by omega)
      · rw [eb2]; exact q8 i (by omega) (by omega)
      · rw [hz, ev]; exact congrArg Value.int q1
      · rw [hz]
        obtain ⟨⟨k1, k2, k3, k4⟩, ⟨k5, k6⟩, -⟩ := q5
        exact ⟨⟨by rw [ea1]; exact k1, k2, by rw [ea1]; exact k3, k4⟩, ⟨by rw [eb2]; exact k5, by rw [eb2]; exact k6⟩, by rw [ea1]; exact q6, by rw [e16]; exact q3, by rw [e17]; exact q4⟩
/-! ===== tales ===== -/
theorem taC_sem (hxt : tk_xtok xt) {W : List (Nat × Nat)} (hK : KC l D xt ads 136 [0] [gn_i] W) : lw_sem l D xt gc_TY h3_X ads lw_twC 20 136 [0] [gn_i] (QCP W taC) := by
  refine cx_semN (S := taC) (k := 8) hxt (by decide) hK (fun rest g l' a b R A hr hin hA => ?_)
  obtain ⟨x, r0, rfl, k0⟩ := av_int hr
  obtain rfl := k0.nil
  obtain ⟨v, g', l'', a', b', hrun, hh⟩ := ha_tales (g := g) (l := l') (a := a) (b := b) (R := cR g l' a b R) (x := x) hA hin.1 hin.2.1.1 hin.2.2.1 hin.2.2.2.2
  rcases hh with ⟨hno, rfl, rfl, rfl, rfl, rfl⟩ | ⟨N, rfl, hN, hN3, h92, hm⟩
  · exact ⟨.int (-1), _, _, _, _, Nat.zero_le 1, cx_of hrun (fun j hj => ⟨fm_un (by omega), rfl, rfl⟩), x, A, rfl, hA, rfl, fun j hj => ⟨fm_un (by omega), rfl⟩, fun j j1 j2 => ⟨fm_un (by omega), rfl⟩, Or.inl ⟨hno, rfl, fm_un (by decide), fm_un (by decide)⟩⟩
  · cases hz : tl_tales (sp_T (a 10) N) N A with
    | inl z =>
      rw [hz] at hm
      obtain ⟨rfl, -, -, f10, f11, hf⟩ := hm
      refine ⟨.int (-1), g', l'', a', b', Nat.zero_le 1, cx_of hrun (fun j hj => hf j (by omega) (by omega) (by omega) (by omega) (by omega)), nI N, A, rfl, hA, (hf 10 (by decide) (by decide) (by decide) (by decide) (by decide)).2.1, fun j hj => ⟨(hf j (by omega) (by omega) (by omega) (by omega) (by omega)).1, (hf j (by omega) (by omega) (by omega) (by omega) (by omega)).2.2⟩, fun j j1 j2 => ⟨(hf j (by omega) (by omega) (by omega) (by omega) (by omega)).1, (hf j (by omega) (by omega) (by omega) (by omega) (by omega)).2.2⟩, Or.inr ⟨N, rfl, hN, hN3, h92, ?_, ?_⟩⟩
      · rw [hz]; rfl
      · rw [hz]
        exact ⟨(hf 34 (by decide) (by decide) (by decide) (by decide) (by decide)).1, f10, f11⟩
    | inr z =>
      rw [hz] at hm
      obtain ⟨rfl, -, f10, f11, f34, hf⟩ := hm
      refine ⟨.int (nI (z.2.1 / 4)), g', l'', a', b', Nat.zero_le 1, cx_of hrun (fun j hj => hf j (by omega) (by omega) (by omega) (by omega) (by omega) (by omega)), nI N, A, rfl, hA, (hf 10 (by decide) (by decide) (by decide) (by decide) (by decide) (by decide)).2.1, fun j hj => ⟨(hf j (by omega) (by omega) (by omega) (by omega) (by omega) (by omega)).1, (hf j (by omega) (by omega) (by omega) (by omega) (by omega) (by omega)).2.2⟩, fun j j1 j2 => ⟨(hf j (by omega) (by omega) (by omega) (by omega) (by omega) (by omega)).1, (hf j (by omega) (by omega) (by omega) (by omega) (by omega) (by omega)).2.2⟩, Or.inr ⟨N, rfl, hN, hN3, h92, ?_, ?_⟩⟩
      · rw [hz]; rfl
      · rw [hz]
        exact ⟨f34, f10, f11⟩
theorem taM_sem (hst : HS xt) : lw_sem l D xt gn_TY (gn_X lw_twM) ads lw_twM 17 252 [0] [gn_i] (QM taM) := by
  refine mx_sem (S := taM) (k := 13) (n := 1) hst gn_M1_ms (fun g tp bt a b xs hx hI => ?_)
  obtain ⟨s, hs, es⟩ := fm_I_10 hI
  obtain ⟨x0, xs0, rfl, hx0⟩ := fm_xsS hx
  obtain rfl := List.length_eq_zero_iff.mp hx0
  obtain ⟨v, mem', hP, hf⟩ := fr_tales (g := g) (tp := tp) (bt := bt) (a := a) (b := b) (n := x0) (fm_I_TH hI)
  obtain ⟨v, g', tp', bt', a', b', e, h1, h2⟩ := fm_I_FTA hI hP
  cases e
  have e6 : a' 6 = a 6 := (h2.2.1 6 (by decide)).resolve_left (by decide +kernel)
  have e42 : g' 42 = g 42 := (h2.1 42).resolve_left (by decide +kernel)
  obtain ⟨v2, g2, a2, e, hz⟩ := hP
  have em : fm g' tp' bt' a' b' = fm g2 tp bt a2 b := congrArg Prod.snd e
  have ea1 : a' 1 = a2 1 := mk_row (n := 5894) (ty := .int) em rfl rfl
  have eb2 : b' 2 = b 2 := mk_rowL em
  have mw_tl : ∀ i ∈ mw_I, ¬ (478 ≤ i ∧ i < 838) ∧ ¬ (3368 ≤ i ∧ i < 4210) := by decide +kernel
  have hfr : ∀ i ∈ mw_I, i ≠ 6 → a' 1 i = a 1 i := fun i hi h6 => by
    rw [ea1]
    rcases hz with ⟨-, -, -, z4⟩ | ⟨-, z2⟩
    · rw [z4]
    · exact z2.2.2.2.2.2.2.2.2.2.2.2.2.1 i h6 (mw_tl i hi).1 (mw_tl i hi).2
  refine ⟨v, g', tp', bt', a', b', hf, h1, h2, x0, rfl, e6, e42, eb2, hfr, fun A hA => ?_⟩
  obtain ⟨v3, g3, a3, hrun, hh⟩ := mt_tales (g := g) (tp := tp) (bt := bt) (a := a) (b := b) (x := x0) hA (fun i hi => hI.2.2 (8, 3, 0, 59) (by decide) i hi) (by rw [es, nI_i32 (by omega)]; omega) (fun k hk => hI.2.2 (6, 900, (-128), 127) (by decide) k hk)
  obtain ⟨d1, d2⟩ := fr_det hf hrun
  have ev : v = v3 := Value.int.inj (Option.some.inj d1)
  have e10 : g' 10 = g3 10 := Value.int.inj (Option.some.inj (fm_o_inj 10 d2))
  have e16 : g' 16 = g3 16 := Value.int.inj (Option.some.inj (fm_o_inj 16 d2))
  have e17 : g' 17 = g3 17 := Value.int.inj (Option.some.inj (fm_o_inj 17 d2))
  have ea3 : a' 1 = a3 1 := mk_row (n := 5894) (ty := .int) d2 rfl rfl
  rcases hh with ⟨hno, k1, k2, k3⟩ | ⟨N, rfl, hN, hN3, ⟨h10, -, -⟩, hm⟩
  · exact Or.inl ⟨hno, by rw [ev, k1], ⟨by rw [e10, k2, pk_un (by decide)], by rw [e16, k2, pk_un (by decide)], by rw [e17, k2, pk_un (by decide)]⟩, by rw [ea3, k3]⟩
  · refine Or.inr ⟨N, rfl, hN, hN3, by rw [e10, h10], ?_, ?_⟩
    · cases hz : tl_tales (sp_T (a 6) N) N A with
      | inl z =>
        rw [hz] at hm
        rw [ev]; exact congrArg Value.int hm.1
      | inr z =>
        rw [hz] at hm
        rw [ev]; exact congrArg Value.int hm.1
    · cases hz : tl_tales (sp_T (a 6) N) N A with
      | inl z =>
        rw [hz] at hm
        obtain ⟨-, -, -, q4, q5, q6⟩ := hm
        exact ⟨by rw [ea3]; exact q6 6 (by decide), by rw [e16]; exact q4, by rw [e17]; exact q5⟩
      | inr z =>
        rw [hz] at hm
        obtain ⟨-, -, q3, q4, q5, -⟩ := hm
        exact ⟨by rw [ea3]; exact q5, by rw [e16]; exact q3, by rw [e17]; exact q4⟩
/-! ===== mark, undo ===== -/
theorem mkC_sem (hxt : tk_xtok xt) {W : List (Nat × Nat)} (hK : KC l D xt ads 184 [] [] W) : lw_sem l D xt gc_TY h3_X ads lw_twC 20 184 [] [] (QC W mkC) := by
  refine cx_sem (S := mkC) (k := 3) hxt (by decide) hK (fun rest g l' a b R hr hin => ?_)
  obtain rfl := hr.nil
  obtain ⟨k, hk, ek⟩ := nI_bd (x := g 0 13) (n := 3) hin.2.1.2.1.1 hin.2.1.2.1.2
  rcases (by omega : k = 0 ∨ k = 1 ∨ k = 2 ∨ k = 3) with rfl | rfl | rfl | rfl
  · obtain ⟨g', a', b', h1, h2, hF, h3, h4⟩ := ha_mark0 (g := g) (l := l') (a := a) (b := b) (R := R) ek (hin.2.2.2.1.2 34 (Or.inl rfl))
    exact ⟨.int 1, g', l', a', b', Nat.zero_le 1, h1, 0, by decide, ek, (h4 9 (by decide) (by decide)).1, (h4 10 (by decide) (by decide)).2.1, Or.inl ⟨by decide, rfl, h2, ⟨h3.1, h3.2.2.1, hF, h3.2.2.2.1, h3.2.2.2.2.1⟩, fun j j1 j2 => ⟨(h4 j (by omega) j2).1, (h4 j (by omega) j2).2.2⟩⟩⟩
  · obtain ⟨g', a', b', h1, h2, hF, h3, h4⟩ := ha_mark1 (g := g) (l := l') (a := a) (b := b) (R := R) ek (hin.2.2.2.1.2 34 (Or.inl rfl))
    exact ⟨.int 2, g', l', a', b', Nat.zero_le 1, h1, 1, by decide, ek, (h4 9 (by decide) (by decide)).1, (h4 10 (by decide) (by decide)).2.1, Or.inl ⟨by decide, rfl, h2, ⟨h3.1, h3.2.2.1, hF, h3.2.2.2.1, h3.2.2.2.2.1⟩, fun j j1 j2 => ⟨(h4 j (by omega) j2).1, (h4 j (by omega) j2).2.2⟩⟩⟩
  · obtain ⟨g', a', b', h1, h2, hF, h3, h4⟩ := ha_mark2 (g := g) (l := l') (a := a) (b := b) (R := R) ek (hin.2.2.2.1.2 34 (Or.inl rfl))
    exact ⟨.int 3, g', l', a', b', Nat.zero_le 1, h1, 2, by decide, ek, (h4 9 (by decide) (by decide)).1, (h4 10 (by decide) (by decide)).2.1, Or.inl ⟨by decide, rfl, h2, ⟨h3.1, h3.2.2.1, hF, h3.2.2.2.1, h3.2.2.2.2.1⟩, fun j j1 j2 => ⟨(h4 j (by omega) j2).1, (h4 j (by omega) j2).2.2⟩⟩⟩
  · exact ⟨.int (-1), _, l', a, b, Nat.zero_le 1, ha_markN ek, 3, by decide, ek, fm_un (by decide), rfl, Or.inr ⟨rfl, rfl, rfl, fun j j1 => ⟨fm_un (by omega), rfl⟩⟩⟩
theorem udC_sem (hxt : tk_xtok xt) {W : List (Nat × Nat)} (hK : KC l D xt ads 185 [] [] W) : lw_sem l D xt gc_TY h3_X ads lw_twC 20 185 [] [] (QC W udC) := by
  refine cx_sem (S := udC) (k := 3) hxt (by decide) hK (fun rest g l' a b R hr hin => ?_)
  obtain rfl := hr.nil
  obtain ⟨k, hk, ek⟩ := nI_bd (x := g 0 13) (n := 3) hin.2.1.2.1.1 hin.2.1.2.1.2
  rcases (by omega : k = 0 ∨ k = 1 ∨ k = 2 ∨ k = 3) with rfl | rfl | rfl | rfl
  · exact ⟨.int (-1), _, l', a, b, Nat.zero_le 1, ha_undoN ek, 0, by decide, ek, fm_un (by decide), rfl, Or.inr ⟨rfl, rfl, rfl, fun j j1 => ⟨fm_un (by omega), rfl⟩⟩⟩
  · obtain ⟨g', a', b', h1, h2, hF, h3, h4⟩ := ha_undo0 (g := g) (l := l') (a := a) (b := b) (R := R) ek (hin.2.2.2.1.2 _ (by first | exact Or.inr (Or.inl rfl) | exact Or.inr (Or.inr (Or.inl rfl)) | exact Or.inr (Or.inr (Or.inr rfl))))
    exact ⟨.int 0, g', l', a', b', Nat.zero_le 1, h1, 1, by decide, ek, (h4 9 (by decide) (by decide)).1, (h4 10 (by decide) (by decide)).2.1, Or.inl ⟨0, rfl, rfl, h2, ⟨h3.1, h3.2.2.1, hF, h3.2.2.2.1, h3.2.2.2.2.1⟩, fun j j1 => ⟨(h4 j (by omega) (by omega)).1, (h4 j (by omega) (by omega)).2.2⟩⟩⟩
  · obtain ⟨g', a', b', h1, h2, hF, h3, h4⟩ := ha_undo1 (g := g) (l := l') (a := a) (b := b) (R := R) ek (hin.2.2.2.1.2 _ (by first | exact Or.inr (Or.inl rfl) | exact Or.inr (Or.inr (Or.inl rfl)) | exact Or.inr (Or.inr (Or.inr rfl))))
    exact ⟨.int 1, g', l', a', b', Nat.zero_le 1, h1, 2, by decide, ek, (h4 9 (by decide) (by decide)).1, (h4 10 (by decide) (by decide)).2.1, Or.inl ⟨1, rfl, rfl, h2, ⟨h3.1, h3.2.2.1, hF, h3.2.2.2.1, h3.2.2.2.2.1⟩, fun j j1 => ⟨(h4 j (by omega) (by omega)).1, (h4 j (by omega) (by omega)).2.2⟩⟩⟩
  · obtain ⟨g', a', b', h1, h2, hF, h3, h4⟩ := ha_undo2 (g := g) (l := l') (a := a) (b := b) (R := R) ek (hin.2.2.2.1.2 _ (by first | exact Or.inr (Or.inl rfl) | exact Or.inr (Or.inr (Or.inl rfl)) | exact Or.inr (Or.inr (Or.inr rfl))))
    exact ⟨.int 2, g', l', a', b', Nat.zero_le 1, h1, 3, by decide, ek, (h4 9 (by decide) (by decide)).1, (h4 10 (by decide) (by decide)).2.1, Or.inl ⟨2, rfl, rfl, h2, ⟨h3.1, h3.2.2.1, hF, h3.2.2.2.1, h3.2.2.2.2.1⟩, fun j j1 => ⟨(h4 j (by omega) (by omega)).1, (h4 j (by omega) (by omega)).2.2⟩⟩⟩
theorem mkM_sem (hst : HS xt) : lw_sem l D xt gn_TY (gn_X lw_twM) ads lw_twM 6 370 [] [] (QM mkM) := by
  refine mx_sem (S := mkM) (k := 2) (n := 0) hst gn_M2_ms (fun g tp bt a b xs hx hI => ?_)
  obtain rfl := List.length_eq_zero_iff.mp hx
  obtain ⟨m, hm, em⟩ := fm_I_42 hI
  obtain ⟨v0, mem0, hF, hf⟩ := fq_markN (g := g) (tp := tp) (bt := bt) (a := a) (b := b) hI.2.1 em hm
  have hP : (fun R => ∃ (v : Int32) (g' : Nat → Int32) (a' : Nat → Nat → Int32) (b' : Nat → Nat → Int64), (m = 3 ∧ v = -1 ∧ g' = upd g 2 4 ∧ a' = a ∧ b' = b ∨ m < 3 ∧ v = nI (m + 1) ∧ g' = upd (upd g 42 (nI (m + 1))) 2 0 ∧ fm_B a' ∧ (∀ t, t ≠ 1 → a' t = a t) ∧ ∀ t, t ≠ 2 → b' t = b t) ∧ R = (some (Value.int v), fm g' tp bt a' b')) (v0, mem0) := by
    obtain ⟨v, g', a', b', hh, hR⟩ := hF
    refine ⟨v, g', a', b', ?_, hR⟩
    rcases hh with z | ⟨z1, z2, z3, z4, z5, z6⟩
    · exact Or.inl z
    · exact Or.inr ⟨z1, z2, z3, z4, z5.1, z6.1⟩
  obtain ⟨v, g', tp', bt', a', b', e, h1, h2⟩ := fm_I_MU (m := m) (n := m + 1) hI (by decide) (fun h => by omega) hP
  cases e
  obtain ⟨w, g2, a2, b2, hh, e2⟩ := hF
  have ev : v = w := Value.int.inj (Option.some.inj (congrArg Prod.fst e2))
  have em2 : fm g' tp' bt' a' b' = fm g2 tp bt a2 b2 := congrArg Prod.snd e2
  have e10 : g' 10 = g2 10 := Value.int.inj (Option.some.inj (fm_o_inj 10 em2))
  have e16 : g' 16 = g2 16 := Value.int.inj (Option.some.inj (fm_o_inj 16 em2))
  have e17 : g' 17 = g2 17 := Value.int.inj (Option.some.inj (fm_o_inj 17 em2))
  have e42 : g' 42 = g2 42 := Value.int.inj (Option.some.inj (fm_o_inj 42 em2))
  have ea6 : a' 6 = a2 6 := mk_row (n := 900) (ty := .byte) em2 rfl rfl
  have ea1 : a' 1 = a2 1 := mk_row (n := 5894) (ty := .int) em2 rfl rfl
  have eb2 : b' 2 = b2 2 := mk_rowL em2
  rcases hh with ⟨rfl, rfl, rfl, rfl, rfl⟩ | ⟨z1, rfl, rfl, z4, z5, z6⟩
  · exact ⟨v, g', tp', bt', a', b', hf, h1, h2, 3, by decide, em, ⟨by rw [e10]; exact pk_un (by decide), by rw [e16]; exact pk_un (by decide), by rw [e17]; exact pk_un (by decide)⟩, ea6, Or.inr ⟨rfl, by rw [ev], by rw [e42]; exact pk_un (by decide), ea1, eb2⟩⟩
  · exact ⟨v, g', tp', bt', a', b', hf, h1, h2, m, hm, em, ⟨by rw [e10, pk_un (by decide), pk_un (by decide)], by rw [e16, pk_un (by decide), pk_un (by decide)], by rw [e17, pk_un (by decide), pk_un (by decide)]⟩, by rw [ea6]; exact z5.1 6 (by decide), Or.inl ⟨z1, by rw [ev], by rw [e42, pk_un (by decide), pk_us], ⟨fun i hi => by rw [ea1]; exact z5.2.2 i hi, fun i hi => by rw [ea1]; exact z5.2.1 i hi⟩, fun i hi => by rw [eb2]; exact z6.2.2 i hi, fun i hi => by rw [eb2]; exact z6.2.1 i hi⟩⟩
theorem udM_sem (hst : HS xt) : lw_sem l D xt gn_TY (gn_X lw_twM) ads lw_twM 6 371 [] [] (QM udM) := by
  refine mx_sem (S := udM) (k := 2) (n := 0) hst gn_M2_ms (fun g tp bt a b xs hx hI => ?_)
  obtain rfl := List.length_eq_zero_iff.mp hx
  obtain ⟨m, hm, em⟩ := fm_I_42 hI
  obtain ⟨v0, mem0, hF, hf⟩ := fq_undoN (g := g) (tp := tp) (bt := bt) (a := a) (b := b) hI.2.1 em hm
  have hP : (fun R => ∃ (v : Int32) (g' : Nat → Int32) (a' : Nat → Nat → Int32) (b' : Nat → Nat → Int64), (m = 0 ∧ v = -1 ∧ g' = upd g 2 6 ∧ a' = a ∧ b' = b ∨ 0 < m ∧ v = nI (m - 1) ∧ g' = upd (upd g 42 (nI (m - 1))) 2 0 ∧ fm_B a' ∧ (∀ t, t ≠ 1 → a' t = a t) ∧ ∀ t, t ≠ 2 → b' t = b t) ∧ R = (some (Value.int v), fm g' tp bt a' b')) (v0, mem0) := by
    obtain ⟨v, g', a', b', hh, hR⟩ := hF
    refine ⟨v, g', a', b', ?_, hR⟩
    rcases hh with z | ⟨z1, z2, z3, z4, z5, z6⟩
    · exact Or.inl z
    · exact Or.inr ⟨z1, z2, z3, z4, z5.1, z6.1⟩
  obtain ⟨v, g', tp', bt', a', b', e, h1, h2⟩ := fm_I_MU (m := m) (n := m - 1) hI (by decide) (fun h => by omega) hP
  cases e
  obtain ⟨w, g2, a2, b2, hh, e2⟩ := hF
  have ev : v = w := Value.int.inj (Option.some.inj (congrArg Prod.fst e2))
  have em2 : fm g' tp' bt' a' b' = fm g2 tp bt a2 b2 := congrArg Prod.snd e2
  have e10 : g' 10 = g2 10 := Value.int.inj (Option.some.inj (fm_o_inj 10 em2))
  have e16 : g' 16 = g2 16 := Value.int.inj (Option.some.inj (fm_o_inj 16 em2))
  have e17 : g' 17 = g2 17 := Value.int.inj (Option.some.inj (fm_o_inj 17 em2))
  have e42 : g' 42 = g2 42 := Value.int.inj (Option.some.inj (fm_o_inj 42 em2))
  have ea6 : a' 6 = a2 6 := mk_row (n := 900) (ty := .byte) em2 rfl rfl
  have ea1 : a' 1 = a2 1 := mk_row (n := 5894) (ty := .int) em2 rfl rfl
  have eb2 : b' 2 = b2 2 := mk_rowL em2
  rcases hh with ⟨rfl, rfl, rfl, rfl, rfl⟩ | ⟨z1, rfl, rfl, z4, z5, z6⟩
  · exact ⟨v, g', tp', bt', a', b', hf, h1, h2, 0, by decide, em, ⟨by rw [e10]; exact pk_un (by decide), by rw [e16]; exact pk_un (by decide), by rw [e17]; exact pk_un (by decide)⟩, ea6, Or.inr ⟨rfl, by rw [ev], by rw [e42]; exact pk_un (by decide), ea1, eb2⟩⟩
  · obtain ⟨k, rfl⟩ : ∃ k, m = k + 1 := ⟨m - 1, by omega⟩
    exact ⟨v, g', tp', bt', a', b', hf, h1, h2, k + 1, hm, em, ⟨by rw [e10, pk_un (by decide), pk_un (by decide)], by rw [e16, pk_un (by decide), pk_un (by decide)], by rw [e17, pk_un (by decide), pk_un (by decide)]⟩, by rw [ea6]; exact z5.1 6 (by decide), Or.inl ⟨k, rfl, by rw [ev]; rfl, by rw [e42, pk_un (by decide), pk_us]; rfl, ⟨fun i hi => by rw [ea1]; exact z5.2.2 i hi, fun i hi => by rw [ea1]; exact z5.2.1 i (by omega)⟩, fun i hi => by rw [eb2]; exact z6.2.2 i hi, fun i hi => by rw [eb2]; exact z6.2.1 i (by omega)⟩⟩
theorem fm_u1q (a : Nat → Nat → Int32) (i : Nat) (v : Int32) : (fm_u a 1 i v) 1 = upd (a 1) i v := rfl
/-- hew, where ways are not looked at -/
theorem kp_hew (hst : HS xt) : lw_sem l D xt gn_TY (gn_X lw_twM) ads lw_twM 13 301 [0, 0, 0] [gn_i, gn_i, gn_i] (lw_unQ 0 mw_W) := by
  refine lw_sem_imp (mx_sem (S := fun _ g a b g' a' b' _ => (∀ k ∈ mw_G, g' k = g k) ∧ a' 6 = a 6 ∧ (∀ i, (∀ X, X < 10 → i ≠ 10 + 6 * X) → a' 1 i = a 1 i) ∧ b' 2 = b 2) (k := 9) (n := 3) hst gn_M0_ms (fun g tp bt a b xs hx hI => ?_)) ?_
  · obtain ⟨x, xs0, rfl, hx0⟩ := fm_xsS hx
    obtain ⟨y, xs1, rfl, hx1⟩ := fm_xsS hx0
    obtain ⟨z, xs2, rfl, hx2⟩ := fm_xsS hx1
    obtain rfl := List.length_eq_zero_iff.mp hx2
    obtain ⟨v, mem', hP, hf⟩ := fr_hew (g := g) (tp := tp) (bt := bt) (a := a) (b := b) (x := x) (y := y) (z := z) hI.2.1 (fm_I_gb hI)
    obtain ⟨v, g', tp', bt', a', b', e, h1, h2⟩ := fm_I_PW hI hP
    cases e
    obtain ⟨NC, hNC, eNC⟩ := fm_B_0 hI.2.1 (i := 0) (n := 10) (by decide) rfl
    have hN : (a 1 0).toInt ≤ (10 : Nat) := by rw [eNC, nI_i32 (by omega)]; omega
    have key : ∀ {v2 : Int32} {g2 : Nat → Int32} {a2 : Nat → Nat → Int32}, fr_T 4 301 [.ref 0, .int x, .int y, .int z] (fm g tp bt a b) (some (.int v2)) (fm g2 tp bt a2 b) → (∀ k ∈ mw_G, g' k = g2 k) ∧ a' 6 = a2 6 ∧ a' 1 = a2 1 ∧ b' 2 = b 2 := fun {v2 g2 a2} hr => by
      obtain ⟨d1, d2⟩ := fr_det hf hr
      exact ⟨fun k hk => by
        simp only [mw_G, List.mem_cons, List.not_mem_nil, or_false] at hk
        rcases hk with rfl | rfl | rfl | rfl
        · exact Value.int.inj (Option.some.inj (fm_o_inj 10 d2))
        · exact Value.int.inj (Option.some.inj (fm_o_inj 42 d2))
        · exact Value.int.inj (Option.some.inj (fm_o_inj 16 d2))
        · exact Value.int.inj (Option.some.inj (fm_o_inj 17 d2)), mk_row (n := 900) (ty := .byte) d2 rfl rfl, mk_row (n := 5894) (ty := .int) d2 rfl rfl, mk_rowL d2⟩
    have u2 : ∀ (st : Int32), ∀ k ∈ mw_G, upd g 2 st k = g k := fun st k hk => pk_un (by
      have : ∀ k ∈ mw_G, k ≠ 2 := by decide
      exact this k hk)
    refine ⟨v, g', tp', bt', a', b', hf, h1, h2, ?_⟩
    by_cases h3 : twoN (a 1 0) x y
    · obtain ⟨X, hX, rfl, -⟩ := inN_nat (m := 10) hN h3.1
      obtain ⟨Y, hY, rfl, -⟩ := inN_nat (m := 10) hN h3.2.1
      by_cases hz : fm_b (a 1 (10 + 6 * X)) (nI Y) = z
      · obtain ⟨e2, e4, e5, e6⟩ := key (ml_hewE hX h3 hz)
        exact ⟨fun k hk => (e2 k hk).trans (u2 _ k hk), e4, fun i _ => by rw [e5], e6⟩
      · obtain ⟨e2, e4, e5, e6⟩ := key (ml_hewT hX hY h3 hz)
        refine ⟨fun k hk => (e2 k hk).trans (u2 _ k hk), by rw [e4, fm_ut (by decide), fm_ut (by decide)], fun i hi => ?_, e6⟩
        rw [e5, fm_u1q, pk_un (hi Y hY), fm_u1q, pk_un (hi X hX)]
    · obtain ⟨e2, e4, e5, e6⟩ := key (ml_hewF h3)
      exact ⟨fun k hk => (e2 k hk).trans (u2 _ k hk), e4, fun i _ => by rw [e5], e6⟩
  · rintro av ws ws' v - ⟨hv, g, a, b, g', a', b', h1, h2, -, q1, q3, q4, q5⟩
    have hne : ∀ i ∈ mw_I, ∀ X, X < 10 → i ≠ 10 + 6 * X := by decide +kernel
    exact ⟨hv, mw_unW h1 (mw_eqV h2 q1 q3 (fun i hi => q4 i (hne i hi)) (fun i _ => congrFun q5 i))⟩
end WSN
