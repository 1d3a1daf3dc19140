/-! ===== odds, meanIn: the calls of both ===== -/
def odC : SC := fun av g _ _ _ v => ∃ c m d f t : Int32, av = [.int c, .int m, .int d, .int f, .int t] ∧ v = .int (if iceN (g 15 8) (g 15 9) c ∧ (0 ≤ m.toInt ∧ m.toInt ≤ 999) ∧ dyN d f t then 1 else 0)
def odM : SM := fun av _ a _ _ v => ∃ c m d f t : Int32, av = [.int c, .int m, .int d, .int f, .int t] ∧ ((iceM (a 1) c ∧ (0 ≤ m.toInt ∧ m.toInt ≤ 999) ∧ dyN d f t) ∧ v = .int 1 ∨ ¬ (iceM (a 1) c ∧ (0 ≤ m.toInt ∧ m.toInt ≤ 999) ∧ dyN d f t) ∧ v = .int 0)
def meC : SC := fun av g _ _ _ v => ∃ c d f t : Int32, av = [.int c, .int d, .int f, .int t] ∧ v = .int (if iceN (g 15 8) (g 15 9) c ∧ dyN d f t then 1 else 0)
def meM : SM := fun av _ a _ _ v => ∃ c d f t : Int32, av = [.int c, .int d, .int f, .int t] ∧ ((iceM (a 1) c ∧ dyN d f t) ∧ v = .int 1 ∨ ¬ (iceM (a 1) c ∧ dyN d f t) ∧ v = .int 0)
theorem ice_wr {g a : Nat → Nat → Int32} {gm : Nat → Int32} {am : Nat → Nat → Int32} (h : wrE g a gm am) (hc : (g 15 8).toInt ≤ 10) (c : Int32) : iceN (g 15 8) (g 15 9) c ↔ iceM (am 1) c := by
  obtain ⟨-, -, h4, -⟩ := h
  have e8 : g 15 8 = am 1 0 := h4.1
  have e9 : ∀ i : Nat, i < 10 → (i : Int) < (g 15 8).toInt → (g 15 9 >>> (nI i &&& 31)) &&& 1 = am 1 (842 * 0 + 8 + 6 * i) := h4.2.2.2.2
  have b2 : ∀ x : Int32, ∀ i : Nat, i < 32 → (x >>> (nI i &&& 31)) &&& 1 = 0 ∨ (x >>> (nI i &&& 31)) &&& 1 = 1 := fun x i hi => by
    rw [bi_v _ hi]
    by_cases e : x.toBitVec.getLsbD i = true
    · rw [if_pos e]; exact Or.inr rfl
    · rw [if_neg e]; exact Or.inl rfl
  constructor
  · rintro ⟨h1, h2⟩
    refine ⟨by rw [← e8]; exact h1, fun C hC e h3 => ?_⟩
    subst e
    have hl := h1.2
    rw [nI_i32 (by omega)] at hl
    have := e9 C hC hl
    rw [h2, show 842 * 0 + 8 + 6 * C = 8 + 6 * C from by omega, h3] at this
    exact absurd this (by decide)
  · rintro ⟨h1, h2⟩
    rw [← e8] at h1
    obtain ⟨C, hC, rfl, -⟩ := inN_nat (m := 10) hc h1
    refine ⟨h1, ?_⟩
    have hl := h1.2
    rw [nI_i32 (by omega)] at hl
    have h9 := e9 C hC hl
    rcases b2 (g 15 9) C (by omega) with h | h
    · exact h
    · rw [h, show 842 * 0 + 8 + 6 * C = 8 + 6 * C from by omega] at h9
      exact absurd h9.symm (h2 C hC rfl)
theorem od_wr {av : List Value} {u w : Value} {g a g' a' : Nat → Nat → Int32} {gm gm' : Nat → Int32} {am am' : Nat → Nat → Int32} (h : wrE g a gm am) (hc : (g 15 8).toInt ≤ 10) (h1 : odC av g a g' a' u) (h2 : odM av gm am gm' am' w) : u = w := by
  obtain ⟨c, m, d, f, t, rfl, rfl⟩ := h1
  obtain ⟨c2, m2, d2, f2, t2, e, h3⟩ := h2
  cases e
  rw [← ice_wr h hc c] at h3
  rcases h3 with ⟨h3, rfl⟩ | ⟨h3, rfl⟩
  · rw [if_pos h3]
  · rw [if_neg h3]
theorem me_wr {av : List Value} {u w : Value} {g a g' a' : Nat → Nat → Int32} {gm gm' : Nat → Int32} {am am' : Nat → Nat → Int32} (h : wrE g a gm am) (hc : (g 15 8).toInt ≤ 10) (h1 : meC av g a g' a' u) (h2 : meM av gm am gm' am' w) : u = w := by
  obtain ⟨c, d, f, t, rfl, rfl⟩ := h1
  obtain ⟨c2, d2, f2, t2, e, h3⟩ := h2
  cases e
  rw [← ice_wr h hc c] at h3
  rcases h3 with ⟨h3, rfl⟩ | ⟨h3, rfl⟩
  · rw [if_pos h3]
  · rw [if_neg h3]
section DAYQ
variable {l : Launch} {D : va_G} {xt : tk_XT} {ads : List Nat}
theorem av4 {e1 e2 e3 e4 : tk_I} {rest : List Value} (h : rk_A2 lq_av ([0, 0, 0, 0].zip [e1, e2, e3, e4]) rest) : ∃ v0 v1 v2 v3 : Int32, rest = [.int v0, .int v1, .int v2, .int v3] := by
  obtain ⟨x0, r0, rfl, k0⟩ := av_int (show rk_A2 lq_av ((0, e1) :: [(0, e2), (0, e3), (0, e4)]) rest from h)
  obtain ⟨x1, r1, rfl, k1⟩ := av_int k0
  obtain ⟨x2, r2, rfl, k2⟩ := av_int k1
  obtain ⟨x3, r3, rfl, k3⟩ := av_int k2
  obtain rfl := k3.nil
  exact ⟨x0, x1, x2, x3, rfl⟩
theorem odC_sem (hxt : tk_xtok xt) {W : List (Nat × Nat)} (hK : KC l D xt ads 178 [0, 0, 0, 0, 0] [gn_i, gn_i, gn_i, gn_i, gn_i] W) : lw_sem l D xt gc_TY h3_X ads lw_twC 20 178 [0, 0, 0, 0, 0] [gn_i, gn_i, gn_i, gn_i, gn_i] (QC W (fun av g a g' a' v => odC av g a g' a' v ∧ (g 15 8).toInt ≤ 10)) := by
  refine cx_sem (S := fun av g a g' a' v => odC av g a g' a' v ∧ (g 15 8).toInt ≤ 10) (k := 3) hxt (by decide) hK (fun rest g l' a b R hr hin => ?_)
  obtain ⟨c, m, d, f, t, rfl⟩ := av5 hr
  have hc : (g 15 8).toInt ≤ 10 := hin.1.2.2.1.2
  by_cases h : iceN (g 15 8) (g 15 9) c ∧ (0 ≤ m.toInt ∧ m.toInt ≤ 999) ∧ dyN d f t
  · obtain ⟨C, hC, rfl, -⟩ := inN_nat (m := 10) hc h.1.1
    obtain ⟨D1, hD, rfl⟩ := nI_bd (x := d) (n := 10) h.2.2.1.1 h.2.2.1.2
    obtain ⟨g', l2, b', hrun⟩ := hd_oddsT (g := g) (l := l') (a := a) (b := b) (R := R) hC hD h
    exact ⟨.int 1, g', l2, a, b', Nat.zero_le 1, hrun, ⟨nI C, m, nI D1, f, t, rfl, by rw [if_pos h]⟩, hc⟩
  · exact ⟨.int 0, fm_u g 0 0 1, l', a, b, Nat.zero_le 1, hd_oddsF h, ⟨c, m, d, f, t, rfl, by rw [if_neg h]⟩, hc⟩
theorem meC_sem (hxt : tk_xtok xt) {W : List (Nat × Nat)} (hK : KC l D xt ads 180 [0, 0, 0, 0] [gn_i, gn_i, gn_i, gn_i] W) : lw_sem l D xt gc_TY h3_X ads lw_twC 20 180 [0, 0, 0, 0] [gn_i, gn_i, gn_i, gn_i] (QC W (fun av g a g' a' v => meC av g a g' a' v ∧ (g 15 8).toInt ≤ 10)) := by
  refine cx_sem (S := fun av g a g' a' v => meC av g a g' a' v ∧ (g 15 8).toInt ≤ 10) (k := 3) hxt (by decide) hK (fun rest g l' a b R hr hin => ?_)
  obtain ⟨c, d, f, t, rfl⟩ := av4 hr
  have hc : (g 15 8).toInt ≤ 10 := hin.1.2.2.1.2
  by_cases h : iceN (g 15 8) (g 15 9) c ∧ dyN d f t
  · obtain ⟨C, hC, rfl, -⟩ := inN_nat (m := 10) hc h.1.1
    obtain ⟨D1, hD, rfl⟩ := nI_bd (x := d) (n := 10) h.2.1.1 h.2.1.2
    obtain ⟨g', l2, b', hrun⟩ := hd_meanT (g := g) (l := l') (a := a) (b := b) (R := R) hC hD h
    exact ⟨.int 1, g', l2, a, b', Nat.zero_le 1, hrun, ⟨nI C, nI D1, f, t, rfl, by rw [if_pos h]⟩, hc⟩
  · exact ⟨.int 0, fm_u g 0 0 1, l', a, b, Nat.zero_le 1, hd_meanF h, ⟨c, d, f, t, rfl, by rw [if_neg h]⟩, hc⟩
/-- a call of the model that leaves all that is looked at, and its answer -/
theorem mx_keepV (hst : HS xt) {k f n : Nat} {V : List Value → (Nat → Int32) → (Nat → Nat → Int32) → Value → Prop}
    (hex : ∀ (g : Nat → Int32) (tp bt : Int64) (a : Nat → Nat → Int32) (b : Nat → Nat → Int64) (xs : List Int32), xs.length = n → fm_I g a → ∃ (v : Option Value) (mem' : fx_M), fm_PP gn_M0 g a b (v, mem') ∧ fm_PK g a (v, mem') ∧ fr_T k f (.ref 0 :: xs.map Value.int) (fm g tp bt a b) v mem' ∧ ∀ x : Int32, v = some (.int x) → V (xs.map Value.int) g a (.int x)) : lw_sem l D xt gn_TY (gn_X lw_twM) ads lw_twM (k + 4) f (List.replicate n 0) (List.replicate n gn_i) (fun av ws ws' v => QM (fun av g a _ _ v => V av g a v) av ws ws' v ∧ ∀ z ∈ mw_W, lw_at ws' z = lw_at ws z) := by
  refine lw_sem_imp (mx_sem (k := k) (f := f) (n := n) hst gn_M0_ms (S := fun av g a g' a' v => V av g a v ∧ g' 10 = g 10 ∧ g' 42 = g 42 ∧ a' 6 = a 6 ∧ ∀ i, fm_st i = true → a' 1 i = a 1 i) (fun g tp bt a b xs hx hI => ?_)) ?_
  · obtain ⟨v, mem', h1, ⟨v2, g2, tp2, bt2, a2, b2, e2, q1, q2, q3, q4⟩, h3, hV⟩ := hex g tp bt a b xs hx hI
    obtain ⟨v1, g1, tp1, bt1, a1, b1, e1, p1, p2⟩ := h1
    cases e1
    have em : fm g1 tp1 bt1 a1 b1 = fm g2 tp2 bt2 a2 b2 := congrArg Prod.snd e2
    have ea : ∀ t n ty, ((fm g1 tp1 bt1 a1 b1)[t]? = some (.inr (ty, n, .inl (a1 t)))) → ((fm g2 tp2 bt2 a2 b2)[t]? = some (.inr (ty, n, .inl (a2 t)))) → a1 t = a2 t := fun t n ty k1 k2 => by
      rw [em, k2] at k1
      injection k1 with k1
      injection k1 with k1
      injection k1 with _ k1
      injection k1 with _ k1
      injection k1 with k1
      exact k1.symm
    have e10 : g1 10 = g2 10 := Value.int.inj (Option.some.inj (fm_o_inj 10 em))
    have e42 : g1 42 = g2 42 := Value.int.inj (Option.some.inj (fm_o_inj 42 em))
    have ea6 : a1 6 = a2 6 := ea 6 900 .byte rfl rfl
    have ea1 : a1 1 = a2 1 := ea 1 5894 .int rfl rfl
    exact ⟨v1, g1, tp1, bt1, a1, b1, h3, p1, p2, hV v1 rfl, e10.trans q1, e42.trans q2, ea6.trans q3, fun i hi => (congrFun ea1 i).trans (q4 i hi)⟩
  · rintro av ws ws' v - ⟨hv, g, a, g', a', h1, h2, h3, hV, q1, q2, q3, q4⟩
    exact ⟨⟨hv, g, a, g', a', h1, h2, h3, hV⟩, mw_unW h1 (mw_eqV h2 q1 q2 q3 (fun i hi => q4 i (mw_lt i hi).2))⟩
theorem odM_sem (hst : HS xt) : lw_sem l D xt gn_TY (gn_X lw_twM) ads lw_twM 13 355 [0, 0, 0, 0, 0] [gn_i, gn_i, gn_i, gn_i, gn_i] (fun av ws ws' v => QM odM av ws ws' v ∧ ∀ z ∈ mw_W, lw_at ws' z = lw_at ws z) := by
  refine mx_keepV (k := 9) (f := 355) (n := 5) (V := fun av g a v => odM av g a g a v) hst (fun g tp bt a b xs hx hI => ?_)
  obtain ⟨x0, xs0, rfl, hx0⟩ := fm_xsS hx
  obtain ⟨x1, xs1, rfl, hx1⟩ := fm_xsS hx0
  obtain ⟨x2, xs2, rfl, hx2⟩ := fm_xsS hx1
  obtain ⟨x3, xs3, rfl, hx3⟩ := fm_xsS hx2
  obtain ⟨x4, xs4, rfl, hx4⟩ := fm_xsS hx3
  obtain rfl := List.length_eq_zero_iff.mp hx4
  obtain ⟨v, mem', hP, hf⟩ := fr_odds (g := g) (tp := tp) (bt := bt) (a := a) (b := b) (c := x0) (m := x1) (dd := x2) (f := x3) (t := x4) hI.2.1 (fm_I_gb hI)
  obtain ⟨v2, mem2, ⟨x, g2, tp2, bt2, a2, b2, h2, eR⟩, hf2⟩ := md_odds (g := g) (tp := tp) (bt := bt) (a := a) (b := b) (c := x0) (m := x1) (dd := x2) (f := x3) (t := x4) hI.2.1 (fm_I_gb hI)
  cases eR
  obtain ⟨d1, -⟩ := fr_det hf hf2
  refine ⟨v, mem', fm_I_PZ hI hP, fm_PK_Z hP, hf, fun y ey => ⟨x0, x1, x2, x3, x4, rfl, ?_⟩⟩
  rw [ey] at d1
  have e : y = x := Value.int.inj (Option.some.inj d1)
  subst e
  rcases h2 with ⟨h2, rfl⟩ | ⟨h2, rfl⟩
  · exact Or.inl ⟨h2, rfl⟩
  · exact Or.inr ⟨h2, rfl⟩
theorem meM_sem (hst : HS xt) : lw_sem l D xt gn_TY (gn_X lw_twM) ads lw_twM 13 357 [0, 0, 0, 0] [gn_i, gn_i, gn_i, gn_i] (fun av ws ws' v => QM meM av ws ws' v ∧ ∀ z ∈ mw_W, lw_at ws' z = lw_at ws z) := by
  refine mx_keepV (k := 9) (f := 357) (n := 4) (V := fun av g a v => meM av g a g a v) hst (fun g tp bt a b xs hx hI => ?_)
  obtain ⟨x0, xs0, rfl, hx0⟩ := fm_xsS hx
  obtain ⟨x1, xs1, rfl, hx1⟩ := fm_xsS hx0
  obtain ⟨x2, xs2, rfl, hx2⟩ := fm_xsS hx1
  obtain ⟨x3, xs3, rfl, hx3⟩ := fm_xsS hx2
  obtain rfl := List.length_eq_zero_iff.mp hx3
  obtain ⟨v, mem', hP, hf⟩ := fr_meanIn (g := g) (tp := tp) (bt := bt) (a := a) (b := b) (c := x0) (dd := x1) (f := x2) (t := x3) hI.2.1 (fm_I_gb hI)
  obtain ⟨v2, mem2, ⟨x, g2, tp2, bt2, a2, b2, h2, eR⟩, hf2⟩ := md_meanIn (g := g) (tp := tp) (bt := bt) (a := a) (b := b) (c := x0) (dd := x1) (f := x2) (t := x3) hI.2.1 (fm_I_gb hI)
  cases eR
  obtain ⟨d1, -⟩ := fr_det hf hf2
  refine ⟨v, mem', fm_I_PZ hI hP, fm_PK_Z hP, hf, fun y ey => ⟨x0, x1, x2, x3, rfl, ?_⟩⟩
  rw [ey] at d1
  have e : y = x := Value.int.inj (Option.some.inj d1)
  subst e
  rcases h2 with ⟨h2, rfl⟩ | ⟨h2, rfl⟩
  · exact Or.inl ⟨h2, rfl⟩
  · exact Or.inr ⟨h2, rfl⟩
end DAYQ
