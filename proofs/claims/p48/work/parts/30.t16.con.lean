/-! ===== tk: a contract at a call: its ends in the caller's words ===== -/
def tk_tv (q : tk_SG) (b : tk_V) : Option tk_V := cond (Nat.ble b.1 1) (tk_tr q.1 b) (cond (Nat.beq b.1 2) (match q.2[b.2.1]? with
  | some r => some (2, r, 0, 0)
  | none => none) (some b))
theorem tk_tv_ok {vals : List Int} {rads : List Nat} {q : tk_SG} {vB : List Int} {rB : List Nat} {b : tk_V} {v : Value} (hq : tk_sg vals rads q vB rB) (h : tk_g vB rB b v) : ∃ a, tk_tv q b = some a ∧ tk_g vals rads a v := by
  unfold tk_tv
  cases h2 : Nat.ble b.1 1 with
  | true =>
    have e2 : b.1 ≤ 1 := Nat.le_of_ble_eq_true h2
    obtain ⟨x, hx, hB⟩ := tk_gnum e2 h
    obtain ⟨a, ha⟩ := tk_tr_some hq.1 hx
    obtain ⟨k1, y, hy, hy'⟩ := tk_tr_num hq.1 ha
    rw [hx] at hy
    obtain rfl := Option.some.inj hy
    exact ⟨a, ha, hB _ _ a k1 hy'⟩
  | false =>
    have e2 : ¬ b.1 ≤ 1 := fun z => by rw [Nat.ble_eq_true_of_le z] at h2; cases h2
    cases h3 : Nat.beq b.1 2 with
    | true =>
      have e3 : b.1 = 2 := Nat.eq_of_beq_eq_true h3
      obtain ⟨y, hy, rfl⟩ := tk_g2 h e3
      obtain ⟨r, hr, hry⟩ := hq.2.getR hy
      dsimp only [cond]
      rw [hr]
      exact ⟨(2, r, 0, 0), rfl, y, hry, rfl⟩
    | false =>
      have e3 : ¬ b.1 = 2 := fun z => by rw [z] at h3; cases h3
      refine ⟨b, rfl, ?_⟩
      unfold tk_g at h ⊢
      split at h
      · next e => omega
      · next e => omega
      · next e => omega
      · exact h
def tk_nws : Nat → List tk_I → List tk_V
  | _, [] => []
  | n, _ :: r => (0, n + 1, 1, 0) :: tk_nws (n + 1) r
theorem tk_nws_ok : ∀ {l : List Int} {e : List tk_I} {vals : List Int}, tk_E e l → rk_A2 (fun a x => tk_num (vals ++ l) a = some x) (tk_nws vals.length e) l := by
  intro l
  induction l with
  | nil =>
    intro e vals h
    cases e with
    | nil => trivial
    | cons I e => exact h.elim
  | cons x l ih =>
    intro e vals h
    cases e with
    | nil => exact h.elim
    | cons I e =>
      refine ⟨?_, ?_⟩
      · unfold tk_num
        dsimp only
        rw [List.getElem?_append_right (Nat.le_refl _), Nat.sub_self]
        show some (((1 : Nat) : Int) * x + 0) = some x
        congr 1
        omega
      · have := ih (e := e) (vals := vals ++ [x]) h.2
        rw [List.length_append, List.append_assoc] at this
        exact this
def tk_nwr : Nat → List Nat → List Nat
  | _, [] => []
  | n, _ :: r => n :: tk_nwr (n + 1) r
theorem tk_nwr_ok {R : Nat → Nat → Prop} : ∀ {l : List Nat} {e : List Nat} {rads : List Nat}, rk_A2 R e l → rk_A2 (fun (r : Nat) (y : Nat) => (rads ++ l)[r]? = some y) (tk_nwr rads.length e) l := by
  intro l
  induction l with
  | nil =>
    intro e rads h
    cases e with
    | nil => trivial
    | cons I e => exact h.elim
  | cons x l ih =>
    intro e rads h
    cases e with
    | nil => exact h.elim
    | cons I e =>
      refine ⟨?_, ?_⟩
      · show (rads ++ x :: l)[rads.length]? = some x
        rw [List.getElem?_append_right (Nat.le_refl _), Nat.sub_self]
        rfl
      · have := ih (e := e) (rads := rads ++ [x]) h.2
        rw [List.length_append, List.append_assoc] at this
        exact this
def tk_cutE : List tk_I → List tk_V → List tk_I → Option (List tk_I)
  | env, a :: as, I :: Is => (match tk_cut env a I.1 I.2 with
    | some e => tk_cutE e as Is
    | none => none)
  | env, _, _ => some env
theorem tk_cutE_ok {vals : List Int} : ∀ {sg : List tk_V} {env eB : List tk_I} {vB k : List Int}, tk_E env vals → rk_A2 (fun a x => tk_num vals a = some x) sg vB → tk_E eB (vB ++ k) → ∃ e, tk_cutE env sg eB = some e ∧ tk_E e vals := by
  intro sg
  induction sg with
  | nil => intro env eB vB k hE _ _; exact ⟨env, by unfold tk_cutE; rfl, hE⟩
  | cons a as ih =>
    intro env eB vB k hE hs hB
    obtain ⟨x, vB, rfl, h1, h2⟩ := hs.cons
    cases eB with
    | nil => exact hB.elim
    | cons I Is =>
      obtain ⟨e1, g1, g2⟩ := tk_cut_ok hE h1 hB.1.1 hB.1.2
      obtain ⟨e2, g3, g4⟩ := ih g2 h2 hB.2
      refine ⟨e2, ?_, g4⟩
      unfold tk_cutE
      rw [g1]
      exact g3
def tk_addC (sg : List tk_V) : tk_W → List tk_Q → Option tk_W
  | w, [] => some w
  | w, q :: r => match sg[q.1]?, sg[q.2.1]? with
    | some a, some b => (match tk_add w a b (-q.2.2) with
      | some w' => tk_addC sg w' r
      | none => none)
    | _, _ => tk_addC sg w r
theorem tk_addC_ok {vals : List Int} {sg : List tk_V} {vB : List Int} (hs : rk_A2 (fun a x => tk_num vals a = some x) sg vB) : ∀ {cB : List tk_Q} {w : tk_W}, tk_H w vals → tk_C cB vB → ∃ w', tk_addC sg w cB = some w' ∧ tk_H w' vals := by
  intro cB
  induction cB with
  | nil => intro w hH _; exact ⟨w, rfl, hH⟩
  | cons q r ih =>
    intro w hH hC
    obtain ⟨x, y, hx, hy, hxy⟩ := hC q List.mem_cons_self
    obtain ⟨a, ha, na⟩ := hs.getR hx
    obtain ⟨b, hb, nb⟩ := hs.getR hy
    obtain ⟨w1, g1, g2⟩ := tk_add_ok (d := -q.2.2) hH na nb (by omega)
    obtain ⟨w2, g3, g4⟩ := ih g2 (fun z hz => hC z (List.mem_cons_of_mem _ hz))
    refine ⟨w2, ?_, g4⟩
    unfold tk_addC
    rw [ha, hb]
    dsimp only
    rw [g1]
    exact g3
def tk_tf (q : tk_SG) : tk_FA → Option tk_FA
  | [] => some []
  | b :: l => match q.2[b.1]?, tk_tr q.1 b.2.1, tk_tv q b.2.2, tk_tf q l with
    | some r, some k, some a, some l' => some ((r, k, a) :: l')
    | _, _, _, _ => none
theorem tk_tf_ok {vals : List Int} {rads : List Nat} {q : tk_SG} {vB : List Int} {rB : List Nat} {ws : va_W} (hq : tk_sg vals rads q vB rB) : ∀ {fB : tk_FA}, (∀ z ∈ fB, tk_fk vB rB ws z) → ∃ f, tk_tf q fB = some f ∧ ∀ z ∈ f, tk_fk vals rads ws z := by
  intro fB
  induction fB with
  | nil => intro _; exact ⟨[], rfl, fun _ z => absurd z List.not_mem_nil⟩
  | cons b l ih =>
    intro h
    obtain ⟨f, g1, g2⟩ := ih (fun z hz => h z (List.mem_cons_of_mem _ hz))
    obtain ⟨y, j, i, e, v, k1, k2, k3, k4, k5⟩ := h b List.mem_cons_self
    obtain ⟨r, hr, hry⟩ := hq.2.getR k1
    obtain ⟨a, ha, hg⟩ := tk_tv_ok hq k5
    obtain ⟨kx, hkx⟩ := tk_tr_some hq.1 k2
    obtain ⟨-, kz, hkB, hkv⟩ := tk_tr_num hq.1 hkx
    rw [k2] at hkB
    refine ⟨(r, kx, a) :: f, ?_, fun z hz => ?_⟩
    · unfold tk_tf
      rw [hr, hkx, ha, g1]
    · rcases List.mem_cons.mp hz with rfl | hz
      · exact ⟨y, j, i, e, v, hry, hkv.trans hkB.symm, k3, k4, hg⟩
      · exact g2 z hz
/-- the caller's facts that a callee leaves -/
def tk_kept (TY : tk_TT) (mods : List (Nat × Nat)) (env : List tk_I) (t : Nat) (k : tk_V) : Bool := match TY.2.2.1 t with
  | none => !(tk_in mods t 0)
  | some g => tk_rgP (fun i => !(tk_in mods t (g i))) env k
def tk_keep (TY : tk_TT) (mods : List (Nat × Nat)) (env : List tk_I) (rf : List Nat) (fa : tk_FA) : tk_FA := fa.filter (fun z => match rf[z.1]? with
  | some t => tk_kept TY mods env t z.2.1
  | none => false)
theorem tk_kept_ok {TY : tk_TT} {mods : List (Nat × Nat)} {env : List tk_I} {vals : List Int} {t i : Nat} {k : tk_V} (hE : tk_E env vals) (hn : tk_num vals k = some (i : Int)) (h : tk_kept TY mods env t k = true) : ¬ (t, tk_rg TY t i) ∈ mods := by
  intro hm
  have hm := tk_in_ok.mpr hm
  unfold tk_kept at h
  unfold tk_rg at hm
  split at h
  · next e => rw [e] at hm; rw [hm] at h; cases h
  · next g e =>
    rw [e] at hm
    have := tk_rgP_ok (P := fun i => !(tk_in mods t (g i))) hE hn h
    rw [hm] at this
    cases this
theorem tk_keep_ok {TY : tk_TT} {mods : List (Nat × Nat)} {env : List tk_I} {rf : List Nat} {fa : tk_FA} {vals : List Int} {rads ads tw : List Nat} {ws ws' : va_W} {A : Nat → Prop} (hE : tk_E env vals) (h3 : rk_A2 (fun t y => tk_ty ads tw t y) rf rads) (h9 : ∀ z ∈ fa, tk_fk vals rads ws z) (hun : tk_un TY mods tw ws ws') (h4 : ws'.map Prod.fst = ads) (hD : va_D A ws') : ∀ z ∈ tk_keep TY mods env rf fa, tk_fk vals rads ws' z := by
  intro z hz
  obtain ⟨z1, z2⟩ := List.mem_filter.mp hz
  obtain ⟨y, j, i, e, v, k1, k2, k3, k4, k5⟩ := h9 z z1
  split at z2
  · next t ht =>
    obtain ⟨y', hy', j', hj', ht'⟩ := h3.get ht
    rw [k1] at hy'
    obtain rfl := Option.some.inj hy'
    obtain ⟨e', g1, g2, -⟩ := hun j y e k3
    rw [← h4, List.getElem?_map] at hj'
    have hjj : j = j' := by
      cases hw : ws'[j']? with
      | none => rw [hw] at hj'; cases hj'
      | some q =>
        rw [hw] at hj'
        have e : q.1 = y := Option.some.inj hj'
        exact hD.1 j j' _ _ g1 hw e.symm
    subst hjj
    exact ⟨y, j, i, e', v, k1, k2, g1, by rw [g2 i t ht' (tk_kept_ok hE k2 z2)]; exact k4, k5⟩
  · cases z2
def tk_rt (q : tk_SG) (r : Option tk_V) : Option (Option tk_V) := match r with
  | none => some none
  | some b => match tk_tv q b with
    | some a => some (some a)
    | none => none
/-- an end, in the caller's words; none: it can't be -/
def tk_ex (TY : tk_TT) (mods : List (Nat × Nat)) (n0 r0 : Nat) (q : tk_SG) (w : tk_W) (rf : List Nat) (fa : tk_FA) (y : tk_X) : Option tk_X :=
  match tk_cutE (w.1 ++ y.2.1.1.drop n0) q.1 y.2.1.1 with
  | none => none
  | some e => match tk_addC (q.1 ++ tk_nws w.1.length (y.2.1.1.drop n0)) (e, w.2) y.2.1.2 with
    | none => none
    | some w' => match tk_rt (q.1 ++ tk_nws w.1.length (y.2.1.1.drop n0), q.2 ++ tk_nwr rf.length (y.2.2.1.drop r0)) y.1, tk_tf (q.1 ++ tk_nws w.1.length (y.2.1.1.drop n0), q.2 ++ tk_nwr rf.length (y.2.2.1.drop r0)) y.2.2.2 with
      | some r, some f => some (r, w', rf ++ y.2.2.1.drop r0, f ++ tk_keep TY mods w.1 rf fa)
      | _, _ => none
abbrev tk_K : Type := Nat × List tk_V × tk_W × List Nat × tk_FA × tk_O
def tk_inst (TY : tk_TT) (K : tk_K) (f : Nat) (as : List tk_V) (w : tk_W) (rf : List Nat) (fa : tk_FA) : Option tk_O := cond (Nat.beq K.1 f) (match tk_ms w ([], []) as K.2.1 with
  | some q => (match tk_mf TY q w rf fa K.2.2.2.2.1 with
    | some (q', w', rf', fa') => cond (tk_fitE w'.1 q'.1 K.2.2.1.1 && (tk_fitC w' q'.1 K.2.2.1.2 && tk_fitR rf' q'.2 K.2.2.2.1)) (some (K.2.2.2.2.2.1.filterMap (tk_ex TY K.2.2.2.2.2.2 K.2.2.1.1.length K.2.2.2.1.length q' w' rf' fa'), K.2.2.2.2.2.2)) none
    | none => none)
  | none => none) none
def tk_SC1 (l : Launch) (D : va_G) (cl : List vw_C) (tbl xw : List Jvm.Cond) (xt : tk_XT) (MN : List rk_N) (P : List rk_M2) (TY : tk_TT) (ro : Nat → Nat → Int → Prop) (X : va_W → Prop) (ads tw : List Nat) (d : Nat) (f : Nat) (as : List tk_V) (w : tk_W) (rf : List Nat) (fa : tk_FA) (o : tk_O) : Prop :=
  ∀ (q : rk_N), MN[f]? = some q → ∃ M, P[f]? = some M ∧ M.2.1 ≤ 21 ∧ ∀ (vals : List Int) (rads : List Nat) (ws : va_W) (av : List Value) (sz : Nat), tk_H w vals → rk_A2 (fun t y => tk_ty ads tw t y) rf rads → rk_A2 (tk_g vals rads) as av → ws.map Prod.fst = ads → (∀ z ∈ fa, tk_fk vals rads ws z) → tk_ob TY ro ads tw ws →
    Met l q.2.1 (Jvm.Cond.code q.2.1 q.2.2 M.2.1 M.2.2.2.2.1 :: tbl) { frames := d, cells := 0, slots := 0, locals := 40 * d } (tk_Pre D cl xw xt TY ro X ads tw ws sz av) (tk_Post D cl TY ro X ads tw o vals rads ws (va_A ws sz)) 0 0 (va_A ws sz)
def tk_KS (l : Launch) (D : va_G) (cl : List vw_C) (tbl xw : List Jvm.Cond) (xt : tk_XT) (MN : List rk_N) (P : List rk_M2) (TY : tk_TT) (ro : Nat → Nat → Int → Prop) (X : va_W → Prop) (ads tw : List Nat) (d : Nat) (K : tk_K) : Prop := tk_SC1 l D cl tbl xw xt MN P TY ro X ads tw d K.1 K.2.1 K.2.2.1 K.2.2.2.1 K.2.2.2.2.1 K.2.2.2.2.2
section TKK
variable {l : Launch} {D : va_G} {cl : List vw_C} {tbl xw : List Jvm.Cond} {xt : tk_XT} {MN : List rk_N} {P : List rk_M2} {TY : tk_TT} {ro : Nat → Nat → Int → Prop} {X : va_W → Prop} {ads tw : List Nat} {d : Nat}
theorem tk_inst_ok {K : tk_K} (hK : tk_KS l D cl tbl xw xt MN P TY ro X ads tw d K) {f : Nat} {as : List tk_V} {w : tk_W} {rf : List Nat} {fa : tk_FA} {o : tk_O} (h : tk_inst TY K f as w rf fa = some o) : tk_SC1 l D cl tbl xw xt MN P TY ro X ads tw d f as w rf fa o := by
  obtain ⟨fK, asB, wB, rfB, faB, oB⟩ := K
  unfold tk_inst at h
  dsimp only at h
  cases h1 : Nat.beq fK f with
  | false => rw [h1] at h; cases h
  | true =>
    rw [h1] at h
    obtain rfl := Nat.eq_of_beq_eq_true h1
    dsimp only [cond] at h
    split at h
    · next q hms =>
      split at h
      · next q' w' rf' fa' hmf =>
        cases h2 : (tk_fitE w'.1 q'.1 wB.1 && (tk_fitC w' q'.1 wB.2 && tk_fitR rf' q'.2 rfB)) with
        | false => rw [h2] at h; cases h
        | true =>
          rw [h2] at h
          obtain rfl := Option.some.inj h
          rw [Bool.and_eq_true, Bool.and_eq_true] at h2
          obtain ⟨c1, c2, c3⟩ := h2
          intro qn hqn
          obtain ⟨M, hM, hM21, hmet⟩ := hK qn hqn
          refine ⟨M, hM, hM21, fun vals rads ws av sz hH h3 ha h4 h9 hob => ?_⟩
          obtain ⟨l1, r1, g1, g2⟩ := tk_ms_ok (vB := []) (rB := []) hH (q := ([], [])) ⟨trivial, trivial⟩ ha hms
          obtain ⟨l2, r2, l3, r3, m1, m2, m3, m4, m5⟩ := tk_mf_ok (ro := ro) (ads := ads) (tw := tw) hob hH h3 h9 g1 hmf
          have hHB : tk_H wB ([] ++ l1 ++ l3) := ⟨tk_fitE_ok m1.1 m4.1 c1, tk_fitC_ok m1 m4.1 c2⟩
          have h3B := tk_fitR_ok m2 m4.2 c3
          have hargs : rk_A2 (tk_g ([] ++ l1 ++ l3) ([] ++ r1 ++ r3)) asB av := tk_skG g2 l3 r3
          have hn0 : wB.1.length = ([] ++ l1 ++ l3).length := hHB.1.len
          have hr0 : rfB.length = ([] ++ r1 ++ r3).length := h3B.len
          generalize hvB : [] ++ l1 ++ l3 = vB at hHB hargs m4 m5 hn0
          generalize hrB : [] ++ r1 ++ r3 = rB at h3B hargs m4 m5 hr0
          refine rk_Met_imp (hmet vB rB ws av sz hHB h3B hargs h4 m5 hob) (fun _ _ z => z) ?_ (fun _ z => z)
          rintro a st oc t - - ⟨⟨x, hx, vals', rads', ws', ⟨k1, rfl⟩, ⟨k2, rfl⟩, b3, b4, b5, b6, b7, b8, b9, b10, b11⟩, hF⟩
          refine ⟨?_, hF⟩
          have eN : tk_E (x.2.1.1.drop wB.1.length) k1 := by
            have := rk_A2.drop wB.1.length b3.1
            rw [hn0, List.drop_left] at this
            rw [hn0]
            exact this
          have rN : rk_A2 (fun t y => tk_ty ads tw t y) (x.2.2.1.drop rfB.length) k2 := by
            have := rk_A2.drop rfB.length b4
            rw [hr0, List.drop_left] at this
            rw [hr0]
            exact this
          have hE2 : tk_E (w'.1 ++ x.2.1.1.drop wB.1.length) ((vals ++ l2) ++ k1) := rk_A2.app eN m1.1
          have hsg0 := tk_sg_grow k1 k2 m4
          have hsg : tk_sg ((vals ++ l2) ++ k1) ((rads ++ r2) ++ k2) (q'.1 ++ tk_nws w'.1.length (x.2.1.1.drop wB.1.length), q'.2 ++ tk_nwr rf'.length (x.2.2.1.drop rfB.length)) (vB ++ k1) (rB ++ k2) := by
            refine ⟨rk_A2.app ?_ hsg0.1, rk_A2.app ?_ hsg0.2⟩
            · rw [show w'.1.length = (vals ++ l2).length from m1.1.len]
              exact tk_nws_ok eN
            · rw [show rf'.length = (rads ++ r2).length from m2.len]
              exact tk_nwr_ok rN
          obtain ⟨e1, p1, p2⟩ := tk_cutE_ok hE2 hsg0.1 b3.1
          obtain ⟨w2, p3, p4⟩ := tk_addC_ok hsg.1 (w := (e1, w'.2)) ⟨p2, tk_C_grow k1 m1.2⟩ b3.2
          obtain ⟨f2, p5, p6⟩ := tk_tf_ok hsg b9
          have hret : ∃ r, tk_rt (q'.1 ++ tk_nws w'.1.length (x.2.1.1.drop wB.1.length), q'.2 ++ tk_nwr rf'.length (x.2.2.1.drop rfB.length)) x.1 = some r ∧ tk_ret r ((vals ++ l2) ++ k1) ((rads ++ r2) ++ k2) oc := by
            unfold tk_ret at b11
            split at b11
            · next e => rw [e]; exact ⟨none, rfl, b11⟩
            · next b e =>
              obtain ⟨v, hv, hoc⟩ := b11
              obtain ⟨a2, ha2, hg2⟩ := tk_tv_ok hsg hv
              refine ⟨some a2, ?_, v, hg2, hoc⟩
              rw [e]
              unfold tk_rt
              dsimp only
              rw [ha2]
          obtain ⟨r, p7, p8⟩ := hret
          have hex : tk_ex TY oB.2 wB.1.length rfB.length q' w' rf' fa' x = some (r, w2, rf' ++ x.2.2.1.drop rfB.length, f2 ++ tk_keep TY oB.2 w'.1 rf' fa') := by
            unfold tk_ex
            rw [p1]
            dsimp only
            rw [p3]
            dsimp only
            rw [p7, p5]
          refine ⟨_, List.mem_filterMap.mpr ⟨x, hx, hex⟩, (vals ++ l2) ++ k1, (rads ++ r2) ++ k2, ws', ⟨l2 ++ k1, by rw [List.append_assoc]⟩, ⟨r2 ++ k2, by rw [List.append_assoc]⟩, p4, rk_A2.app rN m2, b5, b6, b7, b8, fun z hz => ?_, b10, p8⟩
          rcases List.mem_append.mp hz with hz | hz
          · exact p6 z hz
          · exact tk_fk_grow k1 k2 (tk_keep_ok m1.1 m2 m3 b10.1 b5 b8 z hz)
      · cases h
    · cases h
/-- a table of contracts, the first that fits -/
def tk_tbl (TY : tk_TT) : List tk_K → tk_Ca
  | [], _, _, _, _, _ => none
  | K :: r, f, as, w, rf, fa => match tk_inst TY K f as w rf fa with
    | some o => some o
    | none => tk_tbl TY r f as w rf fa
theorem tk_tbl_ok : ∀ {Ks : List tk_K}, (∀ K ∈ Ks, tk_KS l D cl tbl xw xt MN P TY ro X ads tw d K) → tk_SC l D cl tbl xw xt MN P TY ro X ads tw d (tk_tbl TY Ks) := by
  intro Ks
  induction Ks with
  | nil => intro _ f as w rf fa o h; cases h
  | cons K r ih =>
    intro hK f as w rf fa o h
    unfold tk_tbl at h
    split at h
    · next o' ho => cases h; exact tk_inst_ok (hK K List.mem_cons_self) ho
    · exact ih (fun z hz => hK z (List.mem_cons_of_mem _ hz)) f as w rf fa o h
end TKK
