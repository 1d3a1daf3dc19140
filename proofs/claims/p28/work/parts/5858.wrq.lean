/-! ===== lakes and tape: the calls of both ===== -/
section WRQ
variable {l : Launch} {D : va_G} {xt : tk_XT} {ads : List Nat}
theorem cx_of {k f : Nat} {as : List Value} {v : Option Value} {g g' : Nat → Nat → Int32} {l' l'' : Nat → Nat → Int64} {a a' : Nat → Nat → Int32} {b b' : Nat → Nat → Int64} {R : (Nat → fx_E) × fx_M} (h : hr_T k f as (cm g l' a b (cR g l' a b R)) v (cm g' l'' a' b' (cR g l' a b R))) (hk : ∀ j, 67 ≤ j → g' j = g j ∧ a' j = a j ∧ b' j = b j) : hr_T k f as (cx g l' a b R) v (cx g' l'' a' b' R) := by
  unfold cx
  rw [cR_eq (l := l') (l' := l'') hk]
  exact h
theorem av2 {e1 e2 : tk_I} {rest : List Value} (h : rk_A2 lq_av ([0, 0].zip [e1, e2]) rest) : ∃ v0 v1 : Int32, rest = [.int v0, .int v1] := by
  obtain ⟨x0, r0, rfl, k0⟩ := av_int (show rk_A2 lq_av ((0, e1) :: [(0, e2)]) rest from h)
  obtain ⟨x1, r1, rfl, k1⟩ := av_int k0
  obtain rfl := k1.nil
  exact ⟨x0, x1, rfl⟩
theorem av3 {e1 e2 e3 : tk_I} {rest : List Value} (h : rk_A2 lq_av ([0, 0, 0].zip [e1, e2, e3]) rest) : ∃ v0 v1 v2 : Int32, rest = [.int v0, .int v1, .int v2] := by
  obtain ⟨x0, r0, rfl, k0⟩ := av_int (show rk_A2 lq_av ((0, e1) :: [(0, e2), (0, e3)]) rest from h)
  obtain ⟨x1, r1, rfl, k1⟩ := av_int k0
  obtain ⟨x2, r2, rfl, k2⟩ := av_int k1
  obtain rfl := k2.nil
  exact ⟨x0, x1, x2, rfl⟩
abbrev KC (l : Launch) (D : va_G) (xt : tk_XT) (ads : List Nat) (f : Nat) (kinds : List Nat) (envs : List tk_I) (W : List (Nat × Nat)) : Prop := lw_sem l D xt gc_TY h3_X ads lw_twC 20 f kinds envs (lw_unQ 0 W)
abbrev HS (xt : tk_XT) : Prop := ∀ (Ad : Nat → Prop) (U : State) (H : Heap), xt Ad U H → ∃ pl v tx, sk_X pl v Ad U H ∧ vk_R "GooseIceModel" 189 tx pl U
/-! ===== feed ===== -/
theorem feC_sem (hxt : tk_xtok xt) {W : List (Nat × Nat)} (hK : KC l D xt ads 134 [0, 0, 0, 0, 0] [gn_i, gn_i, gn_i, gn_i, gn_i] W) : lw_sem l D xt gc_TY h3_X ads lw_twC 20 134 [0, 0, 0, 0, 0] [gn_i, gn_i, gn_i, gn_i, gn_i] (QC W feC) := by
  refine cx_sem (S := feC) (k := 2) hxt (by decide) hK (fun rest g l' a b R hr hin => ?_)
  obtain ⟨v0, v1, v2, v3, v4, rfl⟩ := av5 hr
  obtain ⟨s, hs, es⟩ := nI_bd (x := g 9 2) (n := 900) hin.1.1.1 hin.1.1.2
  by_cases h8 : s ≤ 880
  · obtain ⟨g', a', h1, h2, h3, h4, h5⟩ := ha_feed (g := g) (l := l') (a := a) (b := b) (R := cR g l' a b R) (v0 := v0) (v1 := v1) (v2 := v2) (v3 := v3) (v4 := v4) es h8
    exact ⟨.int (nI (s + 20)), g', l', a', b, Nat.zero_le 1, cx_of h1 (fun j hj => ⟨h4 j (by omega), h5 j (by omega), rfl⟩), s, v0, v1, v2, v3, v4, hs, es, rfl, Or.inl ⟨h8, h2, h3⟩, h4, h5⟩
  · exact ⟨.int (-1), g, l', a, b, Nat.zero_le 1, cx_of (ha_feedN es (by omega) hs) (fun _ _ => ⟨rfl, rfl, rfl⟩), s, v0, v1, v2, v3, v4, hs, es, rfl, Or.inr ⟨by omega, es, rfl⟩, fun _ _ => rfl, fun _ _ => rfl⟩
theorem feM_sem (hst : HS xt) : lw_sem l D xt gn_TY (gn_X lw_twM) ads lw_twM 6 219 [0, 0, 0, 0, 0] [gn_i, gn_i, gn_i, gn_i, gn_i] (QM feM) := by
  refine mx_sem (S := feM) (k := 2) (n := 5) hst gn_MF_ms (fun g tp bt a b xs hx hI => ?_)
  obtain ⟨s, hs, es⟩ := fm_I_10 hI
  obtain ⟨v0, r0, rfl, k0⟩ := fm_xsS hx
  obtain ⟨v1, r1, rfl, k1⟩ := fm_xsS k0
  obtain ⟨v2, r2, rfl, k2⟩ := fm_xsS k1
  obtain ⟨v3, r3, rfl, k3⟩ := fm_xsS k2
  obtain ⟨v4, r4, rfl, k4⟩ := fm_xsS k3
  obtain rfl := List.length_eq_zero_iff.mp k4
  by_cases h8 : s ≤ 880
  · obtain ⟨g', a', h1, h2, h3, h4, h5⟩ := ma_feed (g := g) (tp := tp) (bt := bt) (a := a) (b := b) (v0 := v0) (v1 := v1) (v2 := v2) (v3 := v3) (v4 := v4) es h8
    have hB : fm_B a' := fm_B_eq hI.2.1 (fun i => by rw [h5 1 (by decide)]) (fun i hi => by rw [h5 9 (by decide)]; exact hI.2.1.2.2 i hi)
    have hI2 : fm_I g' a' := ⟨fun q hq => by
      by_cases e : q.1 = 10
      · have e2 := gm_gf10 q hq e
        subst e2
        show (0 : Int) ≤ (g' 10).toInt ∧ (g' 10).toInt ≤ 900
        rw [h2, nI_i32 (by omega)]
        omega
      · rw [h3 q.1 e]
        exact hI.1 q hq, hB, fun q hq i hi => by
      by_cases e : q.1 = 6
      · have e2 := gm_ar6 q hq e
        subst e2
        show (-128 : Int) ≤ (a' 6 i).toInt ∧ (a' 6 i).toInt ≤ 127
        rw [h4]
        exact t20_bd (n := 900) (fun i hi => hI.2.2 (6, 900, (-128), 127) (by decide) i hi) i hi
      · rw [h5 q.1 e]
        exact hI.2.2 q hq i hi⟩
    have hF : fm_ffr gn_MF g a b g' a' b := ⟨fun k => by
      by_cases h : k = 10
      · subst h; exact Or.inl (List.mem_append_right _ (by decide))
      · exact Or.inr (h3 k h), fun t _ => by
      by_cases h : t = 6
      · subst h; exact Or.inl (List.mem_append_right _ (by decide))
      · exact Or.inr (h5 t h), fun t => Or.inr rfl⟩
    exact ⟨nI (s + 20), g', tp, bt, a', b, h1, hI2, hF, s, v0, v1, v2, v3, v4, hs, es, rfl, Or.inl ⟨h8, h2, h4⟩, h3 42 (by decide), h5 1 (by decide)⟩
  · exact ⟨-1, g, tp, bt, a, b, ma_feedN es (by omega) hs, hI, ⟨fun k => Or.inr rfl, fun t _ => Or.inr rfl, fun t => Or.inr rfl⟩, s, v0, v1, v2, v3, v4, hs, es, rfl, Or.inr ⟨by omega, es, rfl⟩, rfl, rfl⟩
/-! ===== lake ===== -/
theorem laC_sem (hxt : tk_xtok xt) {W : List (Nat × Nat)} (hK : KC l D xt ads 135 [0] [gn_i] W) : lw_sem l D xt gc_TY h3_X ads lw_twC 20 135 [0] [gn_i] (QC W laC) := by
  refine cx_sem (S := laC) (k := 8) hxt (by decide) hK (fun rest g l' a b R hr hin => ?_)
  obtain ⟨x, r0, rfl, k0⟩ := av_int hr
  obtain rfl := k0.nil
  obtain ⟨v, g', l'', a', b', hrun, hh⟩ := ha_lake (g := g) (l := l') (a := a) (b := b) (R := cR g l' a b R) (x := x) hin.1.1 hin.2.1 hin.2.2.2
  rcases hh with ⟨hno, rfl, rfl, rfl, rfl, rfl⟩ | ⟨N, rfl, hN, h92, hm⟩
  · exact ⟨.int (-1), _, _, _, _, Nat.zero_le 1, cx_of hrun (fun j hj => ⟨fm_un (by omega), rfl, rfl⟩), x, rfl, rfl, fun j hj => ⟨fm_un (by omega), rfl⟩, Or.inl ⟨hno, rfl, rfl, fun j j1 j2 => ⟨fm_un (by omega), rfl⟩⟩⟩
  · cases hz : sp_lake (sp_T (a 10) N) N with
    | inl z =>
      rw [hz] at hm
      obtain ⟨rfl, -, -, -, -, hf⟩ := hm
      refine ⟨.int (-1), g', l'', a', b', Nat.zero_le 1, cx_of hrun (fun j hj => hf j (by omega) (by omega) (by omega) (by omega)), nI N, rfl, (hf 10 (by decide) (by decide) (by decide) (by decide)).2.1, fun j hj => ⟨(hf j (by omega) (by omega) (by omega) (by omega)).1, (hf j (by omega) (by omega) (by omega) (by omega)).2.1⟩, Or.inr ⟨N, rfl, hN, h92, ?_, ?_⟩⟩
      · rw [hz]; rfl
      · rw [hz]
        exact fun j j1 j2 => ⟨(hf j (by omega) (by omega) (by omega) (by omega)).1, (hf j (by omega) (by omega) (by omega) (by omega)).2.1⟩
    | inr z =>
      rw [hz] at hm
      obtain ⟨rfl, -, -, -, hcd, -, hf⟩ := hm
      obtain ⟨⟨k1, k2, k3, k4, k5, k6⟩, k7, k8, k9, k10⟩ := hcd
      refine ⟨.int (nI z.1.1.1.length), g', l'', a', b', Nat.zero_le 1, cx_of hrun (fun j hj => hf j (by omega) (by omega) (by omega) (by omega)), nI N, rfl, (hf 10 (by decide) (by decide) (by decide) (by decide)).2.1, fun j hj => ⟨(hf j (by omega) (by omega) (by omega) (by omega)).1, (hf j (by omega) (by omega) (by omega) (by omega)).2.1⟩, Or.inr ⟨N, rfl, hN, h92, ?_, ?_⟩⟩
      · rw [hz]; rfl
      · rw [hz]
        exact ⟨k1, ⟨k3, k4⟩, k9, fun i L w h => k10 i L w h, k2, k7⟩
theorem laM_sem (hst : HS xt) : lw_sem l D xt gn_TY (gn_X lw_twM) ads lw_twM 14 246 [0] [gn_i] (QM laM) := by
  refine mx_sem (S := laM) (k := 10) (n := 1) hst gn_M1_ms (fun g tp bt a b xs hx hI => ?_)
  obtain ⟨s, hs, es⟩ := fm_I_10 hI
  obtain ⟨x, r0, rfl, k0⟩ := fm_xsS hx
  obtain rfl := List.length_eq_zero_iff.mp k0
  obtain ⟨v, mem', hP, hf⟩ := fr_lake (g := g) (tp := tp) (bt := bt) (a := a) (b := b) (n := x) ⟨s, hs, es⟩
  obtain ⟨v, g', tp', bt', a', b', e, h1, h2⟩ := fm_I_FL hI hP
  cases e
  obtain ⟨v2, g2, a2, b2, hrun, hh⟩ := mr_lake (g := g) (tp := tp) (bt := bt) (a := a) (b := b) (x := x) (by rw [es, nI_i32 (by omega)]; omega) (fun k hk => hI.2.2 (6, 900, (-128), 127) (by decide) k hk)
  obtain ⟨d1, d2⟩ := fr_det hf hrun
  have ev : v = v2 := Value.int.inj (Option.some.inj d1)
  have e10 : g' 10 = g2 10 := Value.int.inj (Option.some.inj (fm_o_inj 10 d2))
  have e6 : a' 6 = a 6 := (h2.2.1 6 (by decide)).resolve_left (by decide +kernel)
  have e42 : g' 42 = g 42 := (h2.1 42).resolve_left (by decide +kernel)
  have ea1 : a' 1 = a2 1 := by
    have k1 : (fm g' tp' bt' a' b')[1]? = some (.inr (.int, 5894, .inl (a' 1))) := rfl
    have k2 : (fm g2 tp bt a2 b2)[1]? = some (.inr (.int, 5894, .inl (a2 1))) := rfl
    rw [d2, k2] at k1
    injection k1 with k1
    injection k1 with k1
    injection k1 with _ k1
    injection k1 with _ k1
    injection k1 with k1
    exact k1.symm
  rcases hh with ⟨hno, k1, k2, k3, -⟩ | ⟨N, rfl, hN, h0, hm⟩
  · exact ⟨v, g', tp', bt', a', b', hf, h1, h2, x, rfl, e6, e42, fun i _ _ => by rw [ea1, k3], Or.inl ⟨hno, by rw [ev, k1], by rw [e10, k2, pk_un (by decide)], by rw [ea1, k3]⟩⟩
  · refine ⟨v, g', tp', bt', a', b', hf, h1, h2, nI N, rfl, e6, e42, fun i i1 i2 => ?_, Or.inr ⟨N, rfl, hN, by rw [e10, h0], ?_, ?_⟩⟩
    · rw [ea1]
      cases hz : sp_lake (sp_T (a 6) N) N with
      | inl z =>
        rw [hz] at hm
        exact hm.2.2.2.2.2.1 i (by omega)
      | inr z =>
        rw [hz] at hm
        exact hm.2.2.2.2.2.2.1 i (by omega) (by omega)
    · rw [ev]
      cases hz : sp_lake (sp_T (a 6) N) N with
      | inl z =>
        rw [hz] at hm
        exact congrArg Value.int hm.1
      | inr z =>
        rw [hz] at hm
        exact congrArg Value.int hm.1
    · rw [ea1]
      cases hz : sp_lake (sp_T (a 6) N) N with
      | inl z =>
        rw [hz] at hm
        exact fun i hi => hm.2.2.2.2.2.1 i (by omega)
      | inr z =>
        rw [hz] at hm
        obtain ⟨⟨k1, k2, k3, k4⟩, k5, k6, k7, k8, k9⟩ := hm.2.2.2.2.1
        exact ⟨k1, k3, fun i hi => by rw [show 842 * 0 + 8 + 6 * i + 3 = 0 + 8 + 6 * i + 3 from by omega]; exact k8 i hi, fun i L w h => by rw [show 842 * 0 + 278 + 5 * i = 0 + 278 + 5 * i from by omega]; exact (k9 i L w h).1, fun c hc => by rw [show 842 * 0 + 8 + 6 * c = 0 + 8 + 6 * c from by omega]; exact k6 c hc⟩
/-! ===== tales ===== -/
theorem ta_semV (hxt : tk_xtok xt) {W : List (Nat × Nat)} (hW : lr_un lw_twC gc_TY gc_K61.2.2.2.2.2.2 W = true) : lw_sem l D xt gc_TY (gc_X lw_twC) ads lw_twC 13 136 [0] [gn_i] (fun av ws ws' v => lk_Q 300 (9, 2) av ws ws' v ∧ (∀ z ∈ W, lw_at ws' z = lw_at ws z) ∧ ∃ g a : Nat → Nat → Int32, cw_V ws g a) := by
  refine lw_sem_K (fun U ax ws av a1 a2 a3 a4 a5 a6 => ?_)
  obtain ⟨e, e2, yr, s, hw, hat, hty, hw2, hs, hat2⟩ := fd_wC a1 a3 a4
  obtain ⟨v1, r1, rfl, h1, a2'⟩ := rk_A2.cons (show rk_A2 lq_av [(0, gn_i)] av from a2)
  obtain rfl := a2'.nil
  obtain ⟨n, rfl, hn1, hn2⟩ : ∃ n : Int32, v1 = .int n ∧ (-2147483648 : Int) ≤ n.toInt ∧ n.toInt ≤ 2147483647 := by
    rcases h1 with ⟨-, x, e, b1, b2⟩ | ⟨h1, -⟩
    · exact ⟨x, e, b1, b2⟩
    · cases h1
  refine ⟨_, _, [6], [yr], _, _, _, [n.toInt, (s : Int)], ta_C lw_gcU hxt, ⟨⟨⟨hn1, hn2⟩, ⟨by show (0 : Int) ≤ _; omega, by show _ ≤ (900 : Int); omega⟩, trivial⟩, fun q hq => absurd hq List.not_mem_nil⟩, ⟨hty, trivial⟩, ⟨⟨n, rfl, by show some (1 * n.toInt + 0) = _; congr 1; omega⟩, trivial⟩, ?_, ?_⟩
  · intro z hz
    rcases List.mem_cons.mp hz with hz | hz
    · rw [hz]
      exact lw_fk (r := 0) (j := 0) (i := 7) rfl hw hat ⟨yr, rfl, rfl⟩
    · rw [List.mem_singleton.mp hz]
      exact lw_fk (r := 1) (j := 9) (i := 2) rfl hw2 hat2 ⟨nI s, rfl, by show some (1 * (s : Int) + 0) = _; rw [nI_i32 (by omega)]; congr 1; omega⟩
  · intro y hy t vals' rads' ws' oc k1 k2 k3 k4 k5 k6 k7 k8
    have hv0 : vals'[0]? = some n.toInt := lw_vals k1 rfl
    have hv1 : vals'[1]? = some (s : Int) := lw_vals k1 rfl
    have hr1 : rads'[1]? = some yr := lw_rads (r := 1) k2 rfl
    have hE0 : ∀ (I : tk_I), y.2.1.1[0]? = some I → I.1 ≤ n.toInt ∧ n.toInt ≤ I.2 := fun I hI => by
      obtain ⟨z, hz, h⟩ := k3.1.get hI
      rw [hv0] at hz
      cases hz
      exact h
    have hC : ∀ q ∈ y.2.1.2, ∃ x y2 : Int, vals'[q.1]? = some x ∧ vals'[q.2.1]? = some y2 ∧ x ≤ y2 + q.2.2 := k3.2
    have keep : ∀ {v : Value}, tk_g vals' rads' (0, 2, 1, 0) v → v = .int (nI s) := fun {v} g2 => by
      obtain ⟨x, rfl, hx⟩ := tk_g0 g2 rfl
      have hx : (match vals'[1]? with
        | some z => some (((1 : Nat) : Int) * z + 0)
        | none => none) = some x.toInt := hx
      rw [hv1] at hx
      have hx : some (1 * (s : Int) + 0) = some x.toInt := hx
      exact congrArg Value.int (Int32.toInt_inj.mp (by rw [nI_i32 (by omega)]; have := Option.some.inj hx; omega))
    rcases List.mem_cons.mp hy with hy | hy
    · subst hy
      have hb := hE0 ((-2147483648), (-1)) rfl
      obtain ⟨v, g1, g2⟩ := lw_fk_at (j := 9) (i := 2) a5 (k5.trans a3.symm) hr1 hw2 (k4 _ (List.mem_singleton.mpr rfl))
      obtain ⟨u, hg, eu⟩ := k8
      obtain ⟨x2, rfl, hx2⟩ := tk_g_int hg
      exact ⟨_, eu, ⟨⟨_, rfl⟩, s, n, rfl, hs, hat2, Or.inl ⟨fun h => by have := hb.2; have := h.1; omega, by rw [g1, keep g2]⟩⟩, lw_un_at a4.len.symm hW k7, _, _, cw_in a4⟩
    rcases List.mem_cons.mp hy with hy | hy
    · subst hy
      obtain ⟨p, q, hp, hq, hpq⟩ := hC (1, 0, (-1)) (List.mem_singleton.mpr rfl)
      rw [hv1] at hp
      rw [hv0] at hq
      cases hp
      cases hq
      obtain ⟨v, g1, g2⟩ := lw_fk_at (j := 9) (i := 2) a5 (k5.trans a3.symm) hr1 hw2 (k4 _ (List.mem_singleton.mpr rfl))
      obtain ⟨u, hg, eu⟩ := k8
      obtain ⟨x2, rfl, hx2⟩ := tk_g_int hg
      exact ⟨_, eu, ⟨⟨_, rfl⟩, s, n, rfl, hs, hat2, Or.inl ⟨fun h => by have q1 : (s : Int) ≤ n.toInt + (-1) := hpq; have := h.2.1; omega, by rw [g1, keep g2]⟩⟩, lw_un_at a4.len.symm hW k7, _, _, cw_in a4⟩
    rcases List.mem_cons.mp hy with hy | hy
    · subst hy
      have hb := hE0 (301, 2147483647) rfl
      obtain ⟨v, g1, g2⟩ := lw_fk_at (j := 9) (i := 2) a5 (k5.trans a3.symm) hr1 hw2 (k4 _ (List.mem_singleton.mpr rfl))
      obtain ⟨u, hg, eu⟩ := k8
      obtain ⟨x2, rfl, hx2⟩ := tk_g_int hg
      exact ⟨_, eu, ⟨⟨_, rfl⟩, s, n, rfl, hs, hat2, Or.inl ⟨fun h => by have := hb.1; have := h.2.2; omega, by rw [g1, keep g2]⟩⟩, lw_un_at a4.len.symm hW k7, _, _, cw_in a4⟩
    · rw [List.mem_singleton.mp hy] at hE0 hC k4 k8
      have hb := hE0 (0, 300) rfl
      obtain ⟨p, q, hp, hq, hpq⟩ := hC (0, 1, 0) (List.mem_singleton.mpr rfl)
      rw [hv0] at hp
      rw [hv1] at hq
      cases hp
      cases hq
      obtain ⟨v, g1, g2⟩ := lw_fk_at (j := 9) (i := 2) a5 (k5.trans a3.symm) hr1 hw2 (k4 _ (List.mem_singleton.mpr rfl))
      obtain ⟨u, hg, eu⟩ := k8
      obtain ⟨x2, rfl, -⟩ := tk_g0 hg rfl
      exact ⟨_, eu, ⟨⟨_, rfl⟩, s, n, rfl, hs, hat2, Or.inr ⟨⟨hb.1, by have q1 : n.toInt ≤ (s : Int) + 0 := hpq; omega, hb.2⟩, by rw [g1, tk_g_nI (k := 0) (by decide) g2]⟩⟩, lw_un_at a4.len.symm hW k7, _, _, cw_in a4⟩
def ta_W : List (Nat × Nat) := h3_W ++ (cw_W.filter (fun z => !(Nat.beq z.1 9 && Nat.beq z.2 2)))
theorem taC_sem (hxt : tk_xtok xt) : lw_sem l D xt gc_TY h3_X ads lw_twC 20 136 [0] [gn_i] (QC [] taC) := by
  refine lw_sem_imp (lw_sem_h3 (lw_sem_up (by decide) (ta_semV (W := ta_W) hxt (by decide +kernel))) (fun av ws ws' v h z hz => h.2.1 z (List.mem_append_left _ hz))) ?_
  rintro av ws ws' v - ⟨⟨hv, s, n, rfl, hs, h1, h2⟩, hu, g, a, hV⟩
  have hk : ∀ z ∈ cw_W, z ≠ (9, 2) → lw_at ws' z = lw_at ws z := fun z hz hne => hu z (List.mem_append_right _ (List.mem_filter.mpr ⟨hz, by
    cases e : (Nat.beq z.1 9 && Nat.beq z.2 2) with
    | false => rfl
    | true =>
      obtain ⟨e1, e2⟩ := Bool.and_eq_true_iff.mp e
      exact absurd (Prod.ext (Nat.eq_of_beq_eq_true e1) (Nat.eq_of_beq_eq_true e2)) hne⟩))
  have e92 : g 9 2 = nI s := sv_inj (hV.1 (9, 2) (by decide)) h1
  have hA : ∀ z ∈ cw_LA, ∀ i, i < z.2 → lw_at ws' (z.1, i) = some (.int (a z.1 i)) := fun z hz i hi => by
    rw [hk (z.1, i) (List.mem_append_right _ (List.mem_flatMap.mpr ⟨z, hz, List.mem_map.mpr ⟨i, List.mem_range.mpr hi, rfl⟩⟩)) (fun e => by
      have e1 : z.1 = 9 := congrArg Prod.fst e
      have : ∀ z ∈ cw_LA, z.1 ≠ 9 := by decide
      exact this z hz e1)]
    exact hV.2 z hz i hi
  have fin : ∀ y : Int32, lw_at ws' (9, 2) = some (.int y) → cw_V ws' (fun j i => if j = 9 then y else g j i) a := fun y hy => ⟨fun z hz => by
    by_cases e : z = (9, 2)
    · subst e
      exact hy
    · have e9 : z.1 ≠ 9 := fun e1 => by
        have : ∀ z ∈ cw_LO, z.1 = 9 → z = (9, 2) := by decide
        exact e (this z hz e1)
      rw [hk z (List.mem_append_left _ hz) e]
      refine (hV.1 z hz).trans ?_
      show some (Value.int (g z.1 z.2)) = some (Value.int (if z.1 = 9 then y else g z.1 z.2))
      rw [if_neg e9], hA⟩
  rcases h2 with ⟨p1, p2⟩ | ⟨p1, p2⟩
  · refine ⟨⟨hv, fun z hz => absurd hz List.not_mem_nil⟩, g, a, _, a, hV, fin _ p2, n, rfl, Or.inl ⟨?_, ?_⟩, fun z hz => ?_, fun z hz i hi => rfl⟩
    · rw [e92, nI_i32 (by omega)]; exact p1
    · show nI s = g 9 2; rw [e92]
    · dsimp only
      by_cases e : z.1 = 9
      · rw [if_pos e]
      · rw [if_neg e, if_neg e]
  · refine ⟨⟨hv, fun z hz => absurd hz List.not_mem_nil⟩, g, a, _, a, hV, fin _ p2, n, rfl, Or.inr ⟨?_, rfl⟩, fun z hz => ?_, fun z hz i hi => rfl⟩
    · rw [e92, nI_i32 (by omega)]; exact p1
    · dsimp only
      by_cases e : z.1 = 9
      · rw [if_pos e]
      · rw [if_neg e, if_neg e]
theorem taM_sem (hst : HS xt) : lw_sem l D xt gn_TY (gn_X lw_twM) ads lw_twM 17 252 [0] [gn_i] (QM taM) := by
  refine mx_sem (S := taM) (k := 13) (n := 1) hst gn_M1_ms (fun g tp bt a b xs hx hI => ?_)
  obtain ⟨s, hs, es⟩ := fm_I_10 hI
  obtain ⟨x0, xs0, rfl, hx0⟩ := fm_xsS hx
  obtain rfl := List.length_eq_zero_iff.mp hx0
  obtain ⟨v, mem', hP, hf⟩ := fr_tales (g := g) (tp := tp) (bt := bt) (a := a) (b := b) (n := x0) (fm_I_TH hI)
  obtain ⟨v, g', tp', bt', a', b', e, h1, h2⟩ := fm_I_FTA hI hP
  cases e
  have e6 : a' 6 = a 6 := (h2.2.1 6 (by decide)).resolve_left (by decide +kernel)
  have e42 : g' 42 = g 42 := (h2.1 42).resolve_left (by decide +kernel)
  obtain ⟨v2, g2, a2, e, hz⟩ := hP
  have em : fm g' tp' bt' a' b' = fm g2 tp bt a2 b := congrArg Prod.snd e
  have e2 : g' 10 = g2 10 := Value.int.inj (Option.some.inj (fm_o_inj 10 em))
  have ea1 : a' 1 = a2 1 := by
    have k1 : (fm g' tp' bt' a' b')[1]? = some (.inr (.int, 5894, .inl (a' 1))) := rfl
    have k2 : (fm g2 tp bt a2 b)[1]? = some (.inr (.int, 5894, .inl (a2 1))) := rfl
    rw [em, k2] at k1
    injection k1 with k1
    injection k1 with k1
    injection k1 with _ k1
    injection k1 with _ k1
    injection k1 with k1
    exact k1.symm
  have cv : (0 ≤ x0 ∧ x0 ≤ g 10 ∧ x0 ≤ 300) ↔ (0 ≤ x0.toInt ∧ x0.toInt ≤ (g 10).toInt ∧ x0.toInt ≤ 300) := by
    rw [Int32.le_iff_toInt_le, Int32.le_iff_toInt_le, Int32.le_iff_toInt_le, show (300 : Int32).toInt = 300 from rfl, show (0 : Int32).toInt = 0 from rfl]
  have mw_tl : ∀ i ∈ mw_I, i ≠ 6 ∧ ¬ (478 ≤ i ∧ i < 838) ∧ ¬ (3368 ≤ i ∧ i < 4210) := by decide +kernel
  rcases hz with ⟨z1, -, z3, z4⟩ | ⟨z1, z2⟩
  · exact ⟨v, g', tp', bt', a', b', hf, h1, h2, x0, rfl, Or.inl ⟨fun h => z1 (cv.mpr h), by rw [e2, z3, pk_un (by decide)]⟩, e42, e6, fun i _ => by rw [ea1, z4]⟩
  · have hfr := z2.2.2.2.2.2.2.2.2.2.2.2.2.1
    exact ⟨v, g', tp', bt', a', b', hf, h1, h2, x0, rfl, Or.inr ⟨cv.mp z1, by rw [e2]; exact z2.2.1⟩, e42, e6, fun i hi => by rw [ea1]; exact hfr i (mw_tl i hi).1 (mw_tl i hi).2.1 (mw_tl i hi).2.2⟩
/-! ===== mark, undo ===== -/
theorem mkC_sem (hxt : tk_xtok xt) {W : List (Nat × Nat)} (hK : KC l D xt ads 184 [] [] W) : lw_sem l D xt gc_TY h3_X ads lw_twC 20 184 [] [] (QC W mkC) := by
  refine cx_sem (S := mkC) (k := 3) hxt (by decide) hK (fun rest g l' a b R hr hin => ?_)
  obtain rfl := hr.nil
  obtain ⟨k, hk, ek⟩ := nI_bd (x := g 0 13) (n := 3) hin.1.2.1.1 hin.1.2.1.2
  rcases (by omega : k = 0 ∨ k = 1 ∨ k = 2 ∨ k = 3) with rfl | rfl | rfl | rfl

  · obtain ⟨g', a', b', h1, h2, h3, h4⟩ := ha_mark0 (g := g) (l := l') (a := a) (b := b) (R := R) ek (hin.2.2.1.2 34 (Or.inl rfl))
    exact ⟨.int 1, g', l', a', b', Nat.zero_le 1, h1, 0, by decide, ek, congrFun (h4 9 (by decide) (by decide)).1 2, (h4 10 (by decide) (by decide)).2.1, Or.inl ⟨by decide, rfl, h2, ⟨h3.1, h3.2.2.1, h3.2.2.2.2.2.2.1, h3.2.2.2.2.2.2.2, h3.2.1⟩, fun j j1 j2 => ⟨(h4 j (by omega) j2).1, (h4 j (by omega) j2).2.1⟩⟩⟩
  · obtain ⟨g', a', b', h1, h2, h3, h4⟩ := ha_mark1 (g := g) (l := l') (a := a) (b := b) (R := R) ek (hin.2.2.1.2 34 (Or.inl rfl))
    exact ⟨.int 2, g', l', a', b', Nat.zero_le 1, h1, 1, by decide, ek, congrFun (h4 9 (by decide) (by decide)).1 2, (h4 10 (by decide) (by decide)).2.1, Or.inl ⟨by decide, rfl, h2, ⟨h3.1, h3.2.2.1, h3.2.2.2.2.2.2.1, h3.2.2.2.2.2.2.2, h3.2.1⟩, fun j j1 j2 => ⟨(h4 j (by omega) j2).1, (h4 j (by omega) j2).2.1⟩⟩⟩
  · obtain ⟨g', a', b', h1, h2, h3, h4⟩ := ha_mark2 (g := g) (l := l') (a := a) (b := b) (R := R) ek (hin.2.2.1.2 34 (Or.inl rfl))
    exact ⟨.int 3, g', l', a', b', Nat.zero_le 1, h1, 2, by decide, ek, congrFun (h4 9 (by decide) (by decide)).1 2, (h4 10 (by decide) (by decide)).2.1, Or.inl ⟨by decide, rfl, h2, ⟨h3.1, h3.2.2.1, h3.2.2.2.2.2.2.1, h3.2.2.2.2.2.2.2, h3.2.1⟩, fun j j1 j2 => ⟨(h4 j (by omega) j2).1, (h4 j (by omega) j2).2.1⟩⟩⟩
  · exact ⟨.int (-1), _, l', a, b, Nat.zero_le 1, ha_markN ek, 3, by decide, ek, congrFun (fm_un (by decide)) 2, rfl, Or.inr ⟨rfl, rfl, rfl, fun j j1 => ⟨fm_un (by omega), rfl⟩⟩⟩
theorem udC_sem (hxt : tk_xtok xt) {W : List (Nat × Nat)} (hK : KC l D xt ads 185 [] [] W) : lw_sem l D xt gc_TY h3_X ads lw_twC 20 185 [] [] (QC W udC) := by
  refine cx_sem (S := udC) (k := 3) hxt (by decide) hK (fun rest g l' a b R hr hin => ?_)
  obtain rfl := hr.nil
  obtain ⟨k, hk, ek⟩ := nI_bd (x := g 0 13) (n := 3) hin.1.2.1.1 hin.1.2.1.2
  rcases (by omega : k = 0 ∨ k = 1 ∨ k = 2 ∨ k = 3) with rfl | rfl | rfl | rfl
  · exact ⟨.int (-1), _, l', a, b, Nat.zero_le 1, ha_undoN ek, 0, by decide, ek, congrFun (fm_un (by decide)) 2, rfl, Or.inr ⟨rfl, rfl, rfl, fun j j1 => ⟨fm_un (by omega), rfl⟩⟩⟩
  · obtain ⟨g', a', b', h1, h2, h3, h4⟩ := ha_undo0 (g := g) (l := l') (a := a) (b := b) (R := R) ek (hin.2.2.1.2 _ (by first | exact Or.inr (Or.inl rfl) | exact Or.inr (Or.inr (Or.inl rfl)) | exact Or.inr (Or.inr (Or.inr rfl))))
    exact ⟨.int 0, g', l', a', b', Nat.zero_le 1, h1, 1, by decide, ek, congrFun (h4 9 (by decide) (by decide)).1 2, (h4 10 (by decide) (by decide)).2.1, Or.inl ⟨0, rfl, rfl, h2, ⟨h3.1, h3.2.2.1, h3.2.2.2.2.2.2.1, h3.2.2.2.2.2.2.2, h3.2.1⟩, fun j j1 => ⟨(h4 j (by omega) (by omega)).1, (h4 j (by omega) (by omega)).2.1⟩⟩⟩
  · obtain ⟨g', a', b', h1, h2, h3, h4⟩ := ha_undo1 (g := g) (l := l') (a := a) (b := b) (R := R) ek (hin.2.2.1.2 _ (by first | exact Or.inr (Or.inl rfl) | exact Or.inr (Or.inr (Or.inl rfl)) | exact Or.inr (Or.inr (Or.inr rfl))))
    exact ⟨.int 1, g', l', a', b', Nat.zero_le 1, h1, 2, by decide, ek, congrFun (h4 9 (by decide) (by decide)).1 2, (h4 10 (by decide) (by decide)).2.1, Or.inl ⟨1, rfl, rfl, h2, ⟨h3.1, h3.2.2.1, h3.2.2.2.2.2.2.1, h3.2.2.2.2.2.2.2, h3.2.1⟩, fun j j1 => ⟨(h4 j (by omega) (by omega)).1, (h4 j (by omega) (by omega)).2.1⟩⟩⟩
  · obtain ⟨g', a', b', h1, h2, h3, h4⟩ := ha_undo2 (g := g) (l := l') (a := a) (b := b) (R := R) ek (hin.2.2.1.2 _ (by first | exact Or.inr (Or.inl rfl) | exact Or.inr (Or.inr (Or.inl rfl)) | exact Or.inr (Or.inr (Or.inr rfl))))
    exact ⟨.int 2, g', l', a', b', Nat.zero_le 1, h1, 3, by decide, ek, congrFun (h4 9 (by decide) (by decide)).1 2, (h4 10 (by decide) (by decide)).2.1, Or.inl ⟨2, rfl, rfl, h2, ⟨h3.1, h3.2.2.1, h3.2.2.2.2.2.2.1, h3.2.2.2.2.2.2.2, h3.2.1⟩, fun j j1 => ⟨(h4 j (by omega) (by omega)).1, (h4 j (by omega) (by omega)).2.1⟩⟩⟩
section FQM
variable {g : Nat → Int32} {tp bt : Int64} {a : Nat → Nat → Int32} {b : Nat → Nat → Int64}
theorem fq_mark {m : Nat} (hB : fm_B a) (hm : g 42 = nI m) (hm3 : m ≤ 3) : ∃ (v : Option Value) (mem' : fx_M), (fun R => ∃ (v : Int32) (g' : Nat → Int32) (a' : Nat → Nat → Int32) (b' : Nat → Nat → Int64), (m = 3 ∧ v = -1 ∧ g' = upd g 2 4 ∧ a' = a ∧ b' = b ∨ m < 3 ∧ v = nI (m + 1) ∧ g' = upd (upd g 42 (nI (m + 1))) 2 0 ∧ fm_B a' ∧ fm_cpy a a' 0 (m + 1) ∧ ∀ t, t ≠ 2 → b' t = b t) ∧ R = (some (.int v), fm g' tp bt a' b')) (v, mem') ∧ fr_T 2 370 [.ref 0] (fm g tp bt a b) v mem' := by
  refine fe_meth (F := fun R => ∃ (v : Int32) (g' : Nat → Int32) (a' : Nat → Nat → Int32) (b' : Nat → Nat → Int64), (m = 3 ∧ v = -1 ∧ g' = upd g 2 4 ∧ a' = a ∧ b' = b ∨ m < 3 ∧ v = nI (m + 1) ∧ g' = upd (upd g 42 (nI (m + 1))) 2 0 ∧ fm_B a' ∧ fm_cpy a a' 0 (m + 1) ∧ ∀ t, t ≠ 2 → b' t = b t) ∧ R = (some (.int v), fm g' tp bt a' b')) (M := gk_m370) (by rfl) (by rfl) ?_
  refine fe_s 3 (pc' := 5) (lc' := [(0, .ref 0)]) (stk' := [.int 3, .int (g 42)]) (mem' := fm g tp bt a b) (by intro _ _ _; eq_refl) ?_
  try rw [hm]
  refine fe_s 1 (pc' := cond (fx_cb .ne (nI m) 3) 14 8) (lc' := [(0, .ref 0)]) (stk' := []) (mem' := fm g tp bt a b) (by intro _ _ _; eq_refl) ?_
  by_cases h1 : m = 3
  · rw [show (fx_cb .ne (nI m) 3) = false from cb_neF (a := m) (b := 3) (by omega) (by omega) (by omega)]
    dsimp only [cond]
    refine fe_s 2 (pc' := 10) (lc' := [(0, .ref 0)]) (stk' := [.int 4, .ref 0]) (mem' := fm g tp bt a b) (by intro _ _ _; eq_refl) ?_
    refine fe_ivV (fr_refuse (x := 4)) (by omega) (by rfl) (by rfl) (by rfl) (by rfl) (by rfl) (by rfl) ?_
    exact fe_ret ⟨_, _, a, b, Or.inl ⟨by omega, rfl, rfl, rfl, rfl⟩, rfl⟩ (by rfl) (by rfl) (by rfl)
  · rw [show (fx_cb .ne (nI m) 3) = true from cb_neT (a := m) (b := 3) (by omega) (by omega) (by omega)]
    dsimp only [cond]
    refine fe_s 10 (pc' := 30) (lc' := [(0, .ref 0)]) (stk' := [.int ((g 42) + 1), .int 0, .ref 0]) (mem' := fm (upd g 42 ((g 42) + 1)) tp bt a b) (by intro _ _ _; eq_refl) ?_
    try rw [hm]
    rw [show ((nI m) + 1 : Int32) = nI (m + 1) from by simp only [show (1 : Int32) = nI 1 from rfl, nI_add, fm_mul]]
    obtain ⟨v5, mem5, ⟨a5, b5, hc5, hb5, hR5⟩, hfr5⟩ := fr_copies (s := 0) (d := m + 1) (g := (upd g 42 (nI (m + 1)))) (tp := tp) (bt := bt) (a := a) (b := b) (by omega) (by omega) (by omega)
    cases hR5
    refine fe_ivV hfr5 (by omega) (by rfl) (by rfl) (by rfl) (by rfl) (by rfl) (by rfl) ?_
    refine fe_s 3 (pc' := 38) (lc' := [(0, .ref 0)]) (stk' := [.int (nI (m + 1)), .ref 0]) (mem' := fm (upd g 42 (nI (m + 1))) tp bt a5 b5) (by intro _ _ _; eq_refl) ?_
    refine fe_ivV (fr_gives (x := nI (m + 1))) (by omega) (by rfl) (by rfl) (by rfl) (by rfl) (by rfl) (by rfl) ?_
    exact fe_ret ⟨_, _, a5, b5, Or.inr ⟨by omega, rfl, rfl, fm_B_cpy hB (by omega) (by omega) hc5, hc5, hb5⟩, rfl⟩ (by rfl) (by rfl) (by rfl)
theorem fq_undo {m : Nat} (hB : fm_B a) (hm : g 42 = nI m) (hm3 : m ≤ 3) : ∃ (v : Option Value) (mem' : fx_M), (fun R => ∃ (v : Int32) (g' : Nat → Int32) (a' : Nat → Nat → Int32) (b' : Nat → Nat → Int64), (m = 0 ∧ v = -1 ∧ g' = upd g 2 6 ∧ a' = a ∧ b' = b ∨ 0 < m ∧ v = nI (m - 1) ∧ g' = upd (upd g 42 (nI (m - 1))) 2 0 ∧ fm_B a' ∧ fm_cpy a a' m 0 ∧ ∀ t, t ≠ 2 → b' t = b t) ∧ R = (some (.int v), fm g' tp bt a' b')) (v, mem') ∧ fr_T 2 371 [.ref 0] (fm g tp bt a b) v mem' := by
  refine fe_meth (F := fun R => ∃ (v : Int32) (g' : Nat → Int32) (a' : Nat → Nat → Int32) (b' : Nat → Nat → Int64), (m = 0 ∧ v = -1 ∧ g' = upd g 2 6 ∧ a' = a ∧ b' = b ∨ 0 < m ∧ v = nI (m - 1) ∧ g' = upd (upd g 42 (nI (m - 1))) 2 0 ∧ fm_B a' ∧ fm_cpy a a' m 0 ∧ ∀ t, t ≠ 2 → b' t = b t) ∧ R = (some (.int v), fm g' tp bt a' b')) (M := gk_m371) (by rfl) (by rfl) ?_
  refine fe_s 2 (pc' := 4) (lc' := [(0, .ref 0)]) (stk' := [.int (g 42)]) (mem' := fm g tp bt a b) (by intro _ _ _; eq_refl) ?_
  try rw [hm]
  refine fe_s 1 (pc' := cond (fx_cb .ne (nI m) 0) 14 7) (lc' := [(0, .ref 0)]) (stk' := []) (mem' := fm g tp bt a b) (by intro _ _ _; eq_refl) ?_
  by_cases h1 : m = 0
  · rw [show (fx_cb .ne (nI m) 0) = false from cb_neF (a := m) (b := 0) (by omega) (by omega) (by omega)]
    dsimp only [cond]
    refine fe_s 2 (pc' := 10) (lc' := [(0, .ref 0)]) (stk' := [.int 6, .ref 0]) (mem' := fm g tp bt a b) (by intro _ _ _; eq_refl) ?_
    refine fe_ivV (fr_refuse (x := 6)) (by omega) (by rfl) (by rfl) (by rfl) (by rfl) (by rfl) (by rfl) ?_
    exact fe_ret ⟨_, _, a, b, Or.inl ⟨by omega, rfl, rfl, rfl, rfl⟩, rfl⟩ (by rfl) (by rfl) (by rfl)
  · rw [show (fx_cb .ne (nI m) 0) = true from cb_neT (a := m) (b := 0) (by omega) (by omega) (by omega)]
    dsimp only [cond]
    refine fe_s 4 (pc' := 20) (lc' := [(0, .ref 0)]) (stk' := [.int 0, .int (g 42), .ref 0]) (mem' := fm g tp bt a b) (by intro _ _ _; eq_refl) ?_
    try rw [hm]
    obtain ⟨v5, mem5, ⟨a5, b5, hc5, hb5, hR5⟩, hfr5⟩ := fr_copies (s := m) (d := 0) (g := g) (tp := tp) (bt := bt) (a := a) (b := b) (by omega) (by omega) (by omega)
    cases hR5
    refine fe_ivV hfr5 (by omega) (by rfl) (by rfl) (by rfl) (by rfl) (by rfl) (by rfl) ?_
    refine fe_s 9 (pc' := 38) (lc' := [(0, .ref 0)]) (stk' := [.int ((g 42) - 1), .ref 0]) (mem' := fm (upd g 42 ((g 42) - 1)) tp bt a5 b5) (by intro _ _ _; eq_refl) ?_
    try rw [hm]
    rw [show ((nI m) - 1 : Int32) = nI (m - 1) from by simp only [show (1 : Int32) = nI 1 from rfl, tg_sub2 (x := m) (y := 1) (by omega), nI_add, fm_mul]]
    refine fe_ivV (fr_gives (x := nI (m - 1))) (by omega) (by rfl) (by rfl) (by rfl) (by rfl) (by rfl) (by rfl) ?_
    exact fe_ret ⟨_, _, a5, b5, Or.inr ⟨by omega, rfl, rfl, fm_B_cpy hB (by omega) (by omega) hc5, hc5, hb5⟩, rfl⟩ (by rfl) (by rfl) (by rfl)
end FQM
theorem mk_row {g1 g2 : Nat → Int32} {t1 t2 u1 u2 : Int64} {a1 a2 : Nat → Nat → Int32} {b1 b2 : Nat → Nat → Int64} {t n : Nat} {ty : FieldType} (em : fm g1 t1 u1 a1 b1 = fm g2 t2 u2 a2 b2) (k1 : (fm g1 t1 u1 a1 b1)[t]? = some (.inr (ty, n, .inl (a1 t)))) (k2 : (fm g2 t2 u2 a2 b2)[t]? = some (.inr (ty, n, .inl (a2 t)))) : a1 t = a2 t := by
  rw [em, k2] at k1
  injection k1 with k1
  injection k1 with k1
  injection k1 with _ k1
  injection k1 with _ k1
  injection k1 with k1
  exact k1.symm
theorem mkM_sem (hst : HS xt) : lw_sem l D xt gn_TY (gn_X lw_twM) ads lw_twM 6 370 [] [] (QM mkM) := by
  refine mx_sem (S := mkM) (k := 2) (n := 0) hst gn_M2_ms (fun g tp bt a b xs hx hI => ?_)
  obtain rfl := List.length_eq_zero_iff.mp hx
  obtain ⟨m, hm, em⟩ := fm_I_42 hI
  obtain ⟨v0, mem0, hF, hf⟩ := fq_mark (g := g) (tp := tp) (bt := bt) (a := a) (b := b) hI.2.1 em hm
  have hP : (fun R => ∃ (v : Int32) (g' : Nat → Int32) (a' : Nat → Nat → Int32) (b' : Nat → Nat → Int64), (m = 3 ∧ v = -1 ∧ g' = upd g 2 4 ∧ a' = a ∧ b' = b ∨ m < 3 ∧ v = nI (m + 1) ∧ g' = upd (upd g 42 (nI (m + 1))) 2 0 ∧ fm_B a' ∧ (∀ t, t ≠ 1 → a' t = a t) ∧ ∀ t, t ≠ 2 → b' t = b t) ∧ R = (some (Value.int v), fm g' tp bt a' b')) (v0, mem0) := by
    obtain ⟨v, g', a', b', hh, hR⟩ := hF
    refine ⟨v, g', a', b', ?_, hR⟩
    rcases hh with z | ⟨z1, z2, z3, z4, z5, z6⟩
    · exact Or.inl z
    · exact Or.inr ⟨z1, z2, z3, z4, z5.1, z6⟩
  obtain ⟨v, g', tp', bt', a', b', e, h1, h2⟩ := fm_I_MU (m := m) (n := m + 1) hI (by decide) (fun h => by omega) hP
  cases e
  obtain ⟨w, g2, a2, b2, hh, e2⟩ := hF
  have ev : v = w := Value.int.inj (Option.some.inj (congrArg Prod.fst e2))
  have em2 : fm g' tp' bt' a' b' = fm g2 tp bt a2 b2 := congrArg Prod.snd e2
  have e10 : g' 10 = g2 10 := Value.int.inj (Option.some.inj (fm_o_inj 10 em2))
  have e42 : g' 42 = g2 42 := Value.int.inj (Option.some.inj (fm_o_inj 42 em2))
  have ea6 : a' 6 = a2 6 := mk_row (n := 900) (ty := .byte) em2 rfl rfl
  have ea1 : a' 1 = a2 1 := mk_row (n := 5894) (ty := .int) em2 rfl rfl
  rcases hh with ⟨rfl, rfl, rfl, rfl, rfl⟩ | ⟨z1, rfl, rfl, z4, z5, z6⟩
  · exact ⟨v, g', tp', bt', a', b', hf, h1, h2, 3, by decide, em, by rw [e10]; exact pk_un (by decide), ea6, Or.inr ⟨rfl, by rw [ev], by rw [e42]; exact pk_un (by decide), ea1⟩⟩
  · exact ⟨v, g', tp', bt', a', b', hf, h1, h2, m, hm, em, by rw [e10, pk_un (by decide), pk_un (by decide)], by rw [ea6]; exact z5.1 6 (by decide), Or.inl ⟨z1, by rw [ev], by rw [e42, pk_un (by decide), pk_us], fun i hi => by rw [ea1]; exact z5.2.2 i hi, fun i hi => by rw [ea1]; exact z5.2.1 i hi⟩⟩
theorem udM_sem (hst : HS xt) : lw_sem l D xt gn_TY (gn_X lw_twM) ads lw_twM 6 371 [] [] (QM udM) := by
  refine mx_sem (S := udM) (k := 2) (n := 0) hst gn_M2_ms (fun g tp bt a b xs hx hI => ?_)
  obtain rfl := List.length_eq_zero_iff.mp hx
  obtain ⟨m, hm, em⟩ := fm_I_42 hI
  obtain ⟨v0, mem0, hF, hf⟩ := fq_undo (g := g) (tp := tp) (bt := bt) (a := a) (b := b) hI.2.1 em hm
  have hP : (fun R => ∃ (v : Int32) (g' : Nat → Int32) (a' : Nat → Nat → Int32) (b' : Nat → Nat → Int64), (m = 0 ∧ v = -1 ∧ g' = upd g 2 6 ∧ a' = a ∧ b' = b ∨ 0 < m ∧ v = nI (m - 1) ∧ g' = upd (upd g 42 (nI (m - 1))) 2 0 ∧ fm_B a' ∧ (∀ t, t ≠ 1 → a' t = a t) ∧ ∀ t, t ≠ 2 → b' t = b t) ∧ R = (some (Value.int v), fm g' tp bt a' b')) (v0, mem0) := by
    obtain ⟨v, g', a', b', hh, hR⟩ := hF
    refine ⟨v, g', a', b', ?_, hR⟩
    rcases hh with z | ⟨z1, z2, z3, z4, z5, z6⟩
    · exact Or.inl z
    · exact Or.inr ⟨z1, z2, z3, z4, z5.1, z6⟩
  obtain ⟨v, g', tp', bt', a', b', e, h1, h2⟩ := fm_I_MU (m := m) (n := m - 1) hI (by decide) (fun h => by omega) hP
  cases e
  obtain ⟨w, g2, a2, b2, hh, e2⟩ := hF
  have ev : v = w := Value.int.inj (Option.some.inj (congrArg Prod.fst e2))
  have em2 : fm g' tp' bt' a' b' = fm g2 tp bt a2 b2 := congrArg Prod.snd e2
  have e10 : g' 10 = g2 10 := Value.int.inj (Option.some.inj (fm_o_inj 10 em2))
  have e42 : g' 42 = g2 42 := Value.int.inj (Option.some.inj (fm_o_inj 42 em2))
  have ea6 : a' 6 = a2 6 := mk_row (n := 900) (ty := .byte) em2 rfl rfl
  have ea1 : a' 1 = a2 1 := mk_row (n := 5894) (ty := .int) em2 rfl rfl
  rcases hh with ⟨rfl, rfl, rfl, rfl, rfl⟩ | ⟨z1, rfl, rfl, z4, z5, z6⟩
  · exact ⟨v, g', tp', bt', a', b', hf, h1, h2, 0, by decide, em, by rw [e10]; exact pk_un (by decide), ea6, Or.inr ⟨rfl, by rw [ev], by rw [e42]; exact pk_un (by decide), ea1⟩⟩
  · obtain ⟨k, rfl⟩ : ∃ k, m = k + 1 := ⟨m - 1, by omega⟩
    exact ⟨v, g', tp', bt', a', b', hf, h1, h2, k + 1, hm, em, by rw [e10, pk_un (by decide), pk_un (by decide)], by rw [ea6]; exact z5.1 6 (by decide), Or.inl ⟨k, rfl, by rw [ev]; rfl, by rw [e42, pk_un (by decide), pk_us]; rfl, fun i hi => by rw [ea1]; exact z5.2.2 i hi, fun i hi => by rw [ea1]; exact z5.2.1 i (by omega)⟩⟩
/-! ===== hew, weigh, way, beside ===== -/
theorem fm_u1r (a : Nat → Nat → Int32) (i : Nat) (v : Int32) : (fm_u a 1 i v) 1 = upd (a 1) i v := rfl
theorem wgC_sem (hxt : tk_xtok xt) {W : List (Nat × Nat)} (hK : KC l D xt ads 153 [0, 0] [gn_i, gn_i] W) : lw_sem l D xt gc_TY h3_X ads lw_twC 20 153 [0, 0] [gn_i, gn_i] (QC W wgC) := by
  refine cx_sem (S := wgC) (k := 2) hxt (by decide) hK (fun rest g l' a b R hr hin => ?_)
  obtain ⟨x, y, rfl⟩ := av2 hr
  by_cases h2 : wgN (g 26 7) x y
  · obtain ⟨X, hX, rfl, -⟩ := inN_nat (m := 8) hin.1.2.2.2.2 h2.1
    exact ⟨.int 1, _, l', _, b, Nat.zero_le 1, cx_of (hl_weiT hX h2) (fun j hj => ⟨fm_un (by omega), fm_un (by omega), rfl⟩), nI X, y, rfl, ⟨rfl, fun j hj => fm_un hj⟩, fun j hj => fm_un hj, Or.inr ⟨X, hX, rfl, h2, rfl, rfl⟩⟩
  · exact ⟨.int 0, _, l', a, b, Nat.zero_le 1, cx_of (hl_weiF h2) (fun j hj => ⟨fm_un (by omega), rfl, rfl⟩), x, y, rfl, ⟨rfl, fun j hj => fm_un hj⟩, fun _ _ => rfl, Or.inl ⟨h2, rfl, rfl⟩⟩
theorem fm_B_wg {a : Nat → Nat → Int32} (hB : fm_B a) {X : Nat} (hX : X < 8) {y : Int32} (h1 : 1 ≤ y.toInt) (h2 : y.toInt ≤ 99) : fm_B (fm_u a 1 (278 + 5 * X) y) := by
  obtain ⟨k1, ⟨k2, k3⟩, k4⟩ := hB
  have hw : ∀ X, X < 8 → (gm_at (278 + 5 * X)).1 ≤ 1 ∧ 99 ≤ (gm_at (278 + 5 * X)).2 := by decide
  refine ⟨fun i hi => ?_, ⟨fun s hs c d hc hd => ?_, fun s hs n hn => ?_⟩, fun i hi => k4 i hi⟩
  · unfold fm_bd
    rw [fm_u1r]
    by_cases e : i = 278 + 5 * X
    · rw [e, pk_us]
      have := hw X hX
      omega
    · rw [pk_un e]
      exact k1 i hi
  · rw [fm_u1r, pk_un (by omega), pk_un (by omega)]
    exact k2 s hs c d hc hd
  · rw [fm_u1r] at hn ⊢
    rw [pk_un (by omega)] at hn
    rw [pk_un (by omega), pk_un (by omega)]
    exact k3 s hs n hn
theorem wgM_sem (hst : HS xt) : lw_sem l D xt gn_TY (gn_X lw_twM) ads lw_twM 6 300 [0, 0] [gn_i, gn_i] (QM wgM) := by
  refine mx_sem (S := wgM) (k := 2) (n := 2) hst gn_M0_ms (fun g tp bt a b xs hx hI => ?_)
  obtain ⟨x, xs0, rfl, hx0⟩ := fm_xsS hx
  obtain ⟨y, xs1, rfl, hx1⟩ := fm_xsS hx0
  obtain rfl := List.length_eq_zero_iff.mp hx1
  obtain ⟨NW, hNW, eNW⟩ := fm_B_0 hI.2.1 (i := 1) (n := 8) (by decide) rfl
  have hN : (a 1 1).toInt ≤ (8 : Nat) := by rw [eNW, nI_i32 (by omega)]; omega
  have hG : ∀ st : Int32, ∀ k, (0, k) ∈ gn_M0 ∨ upd g 2 st k = g k := fun st k => by
    by_cases e : k = 2
    · subst e; exact Or.inl (List.mem_append_right _ (by decide))
    · exact Or.inr (pk_un e)
  by_cases h3 : wgN (a 1 1) x y
  · obtain ⟨X, hX, rfl, -⟩ := inN_nat (m := 8) hN h3.1
    refine ⟨1, upd g 2 0, tp, bt, fm_u a 1 (278 + 5 * X) y, b, ml_weiT hX h3, fm_I_a (fm_I_u2 hI (by decide)) (fm_B_wg hI.2.1 hX h3.2.1 h3.2.2) (fun q hq i hi => ?_), ⟨hG 0, fun t ht => Or.inr (fm_ut ht), fun t => Or.inr rfl⟩, nI X, y, rfl, ⟨pk_un (by decide), pk_un (by decide)⟩, fm_ut (by decide), Or.inr ⟨X, hX, rfl, h3, rfl, rfl⟩⟩
    have h1 : ∀ q ∈ gm_ar, q.1 ≠ 1 := by decide
    rw [fm_ut (h1 q hq)]
    exact hI.2.2 q hq i hi
  · exact ⟨0, upd g 2 1, tp, bt, a, b, ml_weiF h3, fm_I_u2 hI (by decide), ⟨hG 1, fun t ht => Or.inr rfl, fun t => Or.inr rfl⟩, x, y, rfl, ⟨pk_un (by decide), pk_un (by decide)⟩, rfl, Or.inl ⟨h3, rfl, rfl⟩⟩
theorem beC_sem (hxt : tk_xtok xt) {W : List (Nat × Nat)} (hK : KC l D xt ads 143 [0, 0] [gn_i, gn_i] W) : lw_sem l D xt gc_TY h3_X ads lw_twC 20 143 [0, 0] [gn_i, gn_i] (QC W (wyC 18)) := by
  refine cx_sem (S := wyC 18) (k := 3) hxt (by decide) hK (fun rest g l' a b R hr hin => ?_)
  obtain ⟨x, y, rfl⟩ := av2 hr
  by_cases h2 : twoN (g 15 8) x y
  · obtain ⟨X, hX, rfl, -⟩ := inN_nat (m := 10) hin.1.2.2.1.2 h2.1
    obtain ⟨Y, hY, rfl, -⟩ := inN_nat (m := 10) hin.1.2.2.1.2 h2.2.1
    refine ⟨.int _, _, l', a, b, Nat.zero_le 1, cx_of (hl_besT hX h2) (fun j hj => ⟨fm_un (by omega), rfl, rfl⟩), nI X, nI Y, rfl, Or.inr ⟨X, hX, rfl, h2, ?_⟩⟩
    rw [fb_eq (by omega)]
  · exact ⟨.int (-1), _, l', a, b, Nat.zero_le 1, cx_of (hl_besF h2) (fun j hj => ⟨fm_un (by omega), rfl, rfl⟩), x, y, rfl, Or.inl ⟨h2, rfl⟩⟩
theorem beM_sem (hst : HS xt) : lw_sem l D xt gn_TY (gn_X lw_twM) ads lw_twM 8 280 [0, 0] [gn_i, gn_i] (fun av ws ws' v => QM (wyM 11) av ws ws' v ∧ ∀ z ∈ mw_W, lw_at ws' z = lw_at ws z) := by
  refine lw_sem_imp (mx_sem (S := fun av g a g' a' v => wyM 11 av g a g' a' v ∧ g' 10 = g 10 ∧ g' 42 = g 42 ∧ a' = a) (k := 4) (n := 2) hst gn_M0_ms (fun g tp bt a b xs hx hI => ?_)) ?_
  · obtain ⟨x, xs0, rfl, hx0⟩ := fm_xsS hx
    obtain ⟨y, xs1, rfl, hx1⟩ := fm_xsS hx0
    obtain rfl := List.length_eq_zero_iff.mp hx1
    obtain ⟨NC, hNC, eNC⟩ := fm_B_0 hI.2.1 (i := 0) (n := 10) (by decide) rfl
    have hN : (a 1 0).toInt ≤ (10 : Nat) := by rw [eNC, nI_i32 (by omega)]; omega
    have hG : ∀ st : Int32, fm_ffr gn_M0 g a b (upd g 2 st) a b := fun st => ⟨fun k => by
      by_cases e : k = 2
      · subst e; exact Or.inl (List.mem_append_right _ (by decide))
      · exact Or.inr (pk_un e), fun t ht => Or.inr rfl, fun t => Or.inr rfl⟩
    by_cases h3 : twoN (a 1 0) x y
    · obtain ⟨X, hX, rfl, -⟩ := inN_nat (m := 10) hN h3.1
      exact ⟨_, upd g 2 0, tp, bt, a, b, ml_besT hX h3, fm_I_u2 hI (by decide), hG 0, ⟨nI X, y, rfl, Or.inr ⟨X, hX, rfl, h3, rfl⟩⟩, pk_un (by decide), pk_un (by decide), rfl⟩
    · exact ⟨-1, upd g 2 1, tp, bt, a, b, ml_besF h3, fm_I_u2 hI (by decide), hG 1, ⟨x, y, rfl, Or.inl ⟨h3, rfl⟩⟩, pk_un (by decide), pk_un (by decide), rfl⟩
  · rintro av ws ws' v - ⟨hv, g, a, g', a', h1, h2, h3, h4, q1, q2, rfl⟩
    exact ⟨⟨hv, g, a', g', a', h1, h2, h3, h4⟩, mw_unW h1 (mw_eqV h2 q1 q2 rfl (fun _ _ => rfl))⟩
/-- hew, where ways are not looked at -/
theorem kp_hew (hst : HS xt) : lw_sem l D xt gn_TY (gn_X lw_twM) ads lw_twM 13 301 [0, 0, 0] [gn_i, gn_i, gn_i] (lw_unQ 0 mw_W) := by
  refine lw_sem_imp (mx_sem (S := fun _ g a g' a' _ => g' 10 = g 10 ∧ g' 42 = g 42 ∧ a' 6 = a 6 ∧ ∀ i, (∀ X, X < 10 → i ≠ 10 + 6 * X) → a' 1 i = a 1 i) (k := 9) (n := 3) hst gn_M0_ms (fun g tp bt a b xs hx hI => ?_)) ?_
  · obtain ⟨x, xs0, rfl, hx0⟩ := fm_xsS hx
    obtain ⟨y, xs1, rfl, hx1⟩ := fm_xsS hx0
    obtain ⟨z, xs2, rfl, hx2⟩ := fm_xsS hx1
    obtain rfl := List.length_eq_zero_iff.mp hx2
    obtain ⟨v, mem', hP, hf⟩ := fr_hew (g := g) (tp := tp) (bt := bt) (a := a) (b := b) (x := x) (y := y) (z := z) hI.2.1 (fm_I_gb hI)
    obtain ⟨v, g', tp', bt', a', b', e, h1, h2⟩ := fm_I_PW hI hP
    cases e
    obtain ⟨NC, hNC, eNC⟩ := fm_B_0 hI.2.1 (i := 0) (n := 10) (by decide) rfl
    have hN : (a 1 0).toInt ≤ (10 : Nat) := by rw [eNC, nI_i32 (by omega)]; omega
    have key : ∀ {v2 : Int32} {g2 : Nat → Int32} {a2 : Nat → Nat → Int32}, fr_T 4 301 [.ref 0, .int x, .int y, .int z] (fm g tp bt a b) (some (.int v2)) (fm g2 tp bt a2 b) → g' 10 = g2 10 ∧ g' 42 = g2 42 ∧ a' 6 = a2 6 ∧ a' 1 = a2 1 := fun {v2 g2 a2} hr => by
      obtain ⟨d1, d2⟩ := fr_det hf hr
      have ea : ∀ t n ty, ((fm g' tp' bt' a' b')[t]? = some (.inr (ty, n, .inl (a' t)))) → ((fm g2 tp bt a2 b)[t]? = some (.inr (ty, n, .inl (a2 t)))) → a' t = a2 t := fun t n ty k1 k2 => by
        rw [d2, k2] at k1
        injection k1 with k1
        injection k1 with k1
        injection k1 with _ k1
        injection k1 with _ k1
        injection k1 with k1
        exact k1.symm
      exact ⟨Value.int.inj (Option.some.inj (fm_o_inj 10 d2)), Value.int.inj (Option.some.inj (fm_o_inj 42 d2)), ea 6 900 .byte rfl rfl, ea 1 5894 .int rfl rfl⟩
    refine ⟨v, g', tp', bt', a', b', hf, h1, h2, ?_⟩
    by_cases h3 : twoN (a 1 0) x y
    · obtain ⟨X, hX, rfl, -⟩ := inN_nat (m := 10) hN h3.1
      obtain ⟨Y, hY, rfl, -⟩ := inN_nat (m := 10) hN h3.2.1
      by_cases hz : fm_b (a 1 (10 + 6 * X)) (nI Y) = z
      · obtain ⟨e2, e3, e4, e5⟩ := key (ml_hewE hX h3 hz)
        exact ⟨by rw [e2, pk_un (by decide)], by rw [e3, pk_un (by decide)], e4, fun i _ => by rw [e5]⟩
      · obtain ⟨e2, e3, e4, e5⟩ := key (ml_hewT hX hY h3 hz)
        refine ⟨by rw [e2, pk_un (by decide)], by rw [e3, pk_un (by decide)], by rw [e4, fm_ut (by decide), fm_ut (by decide)], fun i hi => ?_⟩
        rw [e5, fm_u1r, pk_un (hi Y hY), fm_u1r, pk_un (hi X hX)]
    · obtain ⟨e2, e3, e4, e5⟩ := key (ml_hewF h3)
      exact ⟨by rw [e2, pk_un (by decide)], by rw [e3, pk_un (by decide)], e4, fun i _ => by rw [e5]⟩
  · rintro av ws ws' v - ⟨hv, g, a, g', a', h1, h2, -, q1, q2, q3, q4⟩
    have hne : ∀ i ∈ mw_I, ∀ X, X < 10 → i ≠ 10 + 6 * X := by decide +kernel
    exact ⟨hv, mw_unW h1 (mw_eqV h2 q1 q2 q3 (fun i hi => q4 i (hne i hi)))⟩
end WRQ
