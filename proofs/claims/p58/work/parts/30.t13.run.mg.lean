section MH25_0
/-! ===== tk: ends, a run, a method by its run ===== -/
def tk_rok (env : List tk_I) (ret : Option FieldType) (a : tk_V) : Bool := match ret with
  | some ty => tk_bt env ty a
  | none => false
def tk_end (ret : Option FieldType) (ins : Instr) (st : tk_S) : Option (Option tk_X) := match ins with
  | .return_ => match st.2.1, ret with
    | [], none => some (some (none, st.2.2.1, st.2.2.2.1, st.2.2.2.2))
    | _, _ => some none
  | .ireturn => match st.2.1 with
    | [a] => if tk_rok st.2.2.1.1 ret a = true ∧ a.1 = 0 then some (some (some a, st.2.2.1, st.2.2.2.1, st.2.2.2.2)) else some none
    | _ => some none
  | .lreturn => match st.2.1 with
    | [a] => if ret = some .long ∧ a.1 = 1 then some (some (some a, st.2.2.1, st.2.2.2.1, st.2.2.2.2)) else some none
    | _ => some none
  | _ => none
def tk_at : List (Nat × Instr × Nat) → Nat → Option (Nat × Instr × Nat)
  | [], _ => none
  | q :: r, pc => cond (Nat.beq q.1 pc) (some q) (tk_at r pc)
theorem tk_at_ok {pc : Nat} {q : Nat × Instr × Nat} : ∀ {l : List (Nat × Instr × Nat)}, tk_at l pc = some q → q ∈ l ∧ q.1 = pc := by
  intro l
  induction l with
  | nil => intro h; cases h
  | cons r l ih =>
    intro h
    unfold tk_at at h
    cases hb : Nat.beq r.1 pc with
    | true =>
      rw [hb] at h
      obtain rfl := Option.some.inj (show some r = some q from h)
      exact ⟨List.mem_cons_self, Nat.eq_of_beq_eq_true hb⟩
    | false =>
      rw [hb] at h
      have := ih h
      exact ⟨List.mem_cons_of_mem _ this.1, this.2⟩
def tk_go1 (fn : Nat → Instr → Option tk_Fn) (ret : Option FieldType) (ml : List (Nat × Instr × Nat)) (q : Nat × tk_S) : Option (tk_X ⊕ List (Nat × tk_S)) := match tk_at ml q.1 with
  | some (pc, ins, len) => if rk_len ins len = true then (match tk_end ret ins q.2 with
    | some (some x) => some (.inl x)
    | some none => none
    | none => (match fn pc ins with
      | some F => (match F q.2 with
        | some l => some (.inr l)
        | none => none)
      | none => none)) else none
  | none => none
/-- a refinement ahead of a step: one of the listed states it is -/
def tk_goL (fn : Nat → Instr → Option tk_Fn) (ret : Option FieldType) (ml : List (Nat × Instr × Nat)) (pc : Nat) : List tk_S → Option (List (Nat × tk_S))
  | [] => some []
  | st :: r => match tk_go1 fn ret ml (pc, st) with
    | some (.inr l) => (match tk_goL fn ret ml pc r with
      | some l2 => some (l ++ l2)
      | none => none)
    | _ => none
def tk_go1H (hk : Nat → tk_S → Option (List tk_S)) (fn : Nat → Instr → Option tk_Fn) (ret : Option FieldType) (ml : List (Nat × Instr × Nat)) (q : Nat × tk_S) : Option (tk_X ⊕ List (Nat × tk_S)) := match hk q.1 q.2 with
  | none => tk_go1 fn ret ml q
  | some l => match tk_goL fn ret ml q.1 l with
    | some r => some (.inr r)
    | none => none
theorem tk_goL_mem {fn : Nat → Instr → Option tk_Fn} {ret : Option FieldType} {ml : List (Nat × Instr × Nat)} {pc : Nat} {st : tk_S} : ∀ {l : List tk_S} {r : List (Nat × tk_S)}, tk_goL fn ret ml pc l = some r → st ∈ l → ∃ l1, tk_go1 fn ret ml (pc, st) = some (.inr l1) ∧ ∀ z ∈ l1, z ∈ r := by
  intro l
  induction l with
  | nil => intro r _ h; exact absurd h List.not_mem_nil
  | cons a l ih =>
    intro r h hm
    unfold tk_goL at h
    split at h
    · next l1 h1 =>
      split at h
      · next l2 h2 =>
        cases h
        rcases List.mem_cons.mp hm with rfl | hm
        · exact ⟨l1, h1, fun z hz => List.mem_append_left _ hz⟩
        · obtain ⟨l3, g1, g2⟩ := ih h2 hm
          exact ⟨l3, g1, fun z hz => List.mem_append_right _ (g2 z hz)⟩
      · cases h
    · cases h
def tk_loop (go : Nat × tk_S → Option (tk_X ⊕ List (Nat × tk_S))) (cut : Nat → tk_S → Option Bool) : Nat → List (Nat × tk_S) → List tk_X → Option (List tk_X)
  | 0, _, _ => none
  | _ + 1, [], acc => some acc
  | n + 1, q :: w, acc => match cut q.1 q.2 with
    | some true => tk_loop go cut n w acc
    | some false => none
    | none => match go q with
      | some (.inl x) => tk_loop go cut n w (x :: acc)
      | some (.inr l) => tk_loop go cut n (l ++ w) acc
      | none => none
theorem tk_loop_ok {go : Nat × tk_S → Option (tk_X ⊕ List (Nat × tk_S))} {cut : Nat → tk_S → Option Bool} {W : Nat → tk_S → Prop} {XS : List tk_X} (h1 : ∀ pc st, cut pc st = some true → W pc st) (h2 : ∀ q x, go q = some (.inl x) → x ∈ XS → W q.1 q.2) (h3 : ∀ q l, go q = some (.inr l) → (∀ z ∈ l, W z.1 z.2) → W q.1 q.2) : ∀ (n : Nat) (work : List (Nat × tk_S)) (acc xs : List tk_X), tk_loop go cut n work acc = some xs → (∀ x ∈ xs, x ∈ XS) → (∀ x ∈ acc, x ∈ xs) ∧ ∀ q ∈ work, W q.1 q.2 := by
  intro n
  induction n with
  | zero => intro work acc xs h; cases h
  | succ n ih =>
    intro work acc xs h hX
    cases work with
    | nil => cases h; exact ⟨fun _ h => h, fun _ h => absurd h List.not_mem_nil⟩
    | cons q w =>
      unfold tk_loop at h
      split at h
      · next hc =>
        obtain ⟨g1, g2⟩ := ih w acc xs h hX
        refine ⟨g1, fun z hz => ?_⟩
        rcases List.mem_cons.mp hz with rfl | hz
        · exact h1 _ _ hc
        · exact g2 z hz
      · cases h
      · split at h
        · next x hx =>
          obtain ⟨g1, g2⟩ := ih w (x :: acc) xs h hX
          refine ⟨fun y hy => g1 y (List.mem_cons_of_mem _ hy), fun z hz => ?_⟩
          rcases List.mem_cons.mp hz with rfl | hz
          · exact h2 _ x hx (hX _ (g1 x List.mem_cons_self))
          · exact g2 z hz
        · next l hl =>
          obtain ⟨g1, g2⟩ := ih (l ++ w) acc xs h hX
          refine ⟨g1, fun z hz => ?_⟩
          rcases List.mem_cons.mp hz with rfl | hz
          · exact h3 _ l hl (fun y hy => g2 y (List.mem_append_left _ hy))
          · exact g2 z (List.mem_append_right _ hz)
        · cases h
def tk_args : Nat → List tk_V → List (Nat × tk_V)
  | _, [] => []
  | i, a :: r => (i, a) :: tk_args (i + tk_cat a) r
theorem tk_args_ok {vals : List Int} {rads : List Nat} : ∀ {as : List tk_V} {av : List Value} (i : Nat), rk_A2 (tk_g vals rads) as av → tk_Lo vals rads (tk_args i as) (lv_args i av) := by
  intro as
  induction as with
  | nil => intro av i h; rw [h.nil]; trivial
  | cons a as ih =>
    intro av i h
    obtain ⟨v, k, rfl, hg, hs⟩ := h.cons
    refine ⟨⟨rfl, hg⟩, ?_⟩
    have e : i + tk_cat a = if v.category = 2 then i + 2 else i + 1 := by
      rw [tk_cat_ok hg]
      rcases lv_cat v with q | q <;> simp [q]
    rw [e]
    exact ih _ hs
section TKR
variable {p : Program} {l : Launch} {e : Env} {R : Room} {s : State} {m : MethodId} {args : Array Value} {below : List Frame} {meth : Method} {c : Code} {Q : State → Prop} {cc : ByteArray} {D : va_G} {cl : List vw_C} {Ad : Nat → Prop} {nL : Nat} {vals0 : List Int} {rads0 : List Nat}
variable {mods : List (Nat × Nat)} {ws0 : va_W} {tbl xw : List Jvm.Cond} {fty : rk_F} {cln : List String} {MN : List rk_N} {mci : List Nat} {P : List rk_M2} {own : String} {xt : tk_XT} {TY : tk_TT} {ro : Nat → Nat → Int → Prop} {X : va_W → Prop} {ads tw : List Nat}
theorem tk_end_ok (hx : p.tables.exec = Jvm.exec) (hb : c.code = cc) (hlocks : meth.locks = false) {ret : Option FieldType} (hr : meth.sig.returnType = ret) {XS : List tk_X} {pc : Nat} {ins : Instr} {len : Nat} {st : tk_S} {x : tk_X} (hdg : decode cc pc = .ok (ins, len)) (hlen : rk_len ins len = true) (h : tk_end ret ins st = some (some x)) (hXS : x ∈ XS) : tk_St (rk_KW p l e R s m args below meth c (MQ below (tk_Post D cl TY ro X ads tw (XS, mods) vals0 rads0 ws0 Ad) args s R.cells R.slots Ad)) nL (tk_hr mods ws0 TY ro X ads tw s D cl Ad vals0 rads0) pc st := by
  obtain ⟨lo, sk, w, rf, fa⟩ := st
  intro vals rads H locs ls stk lc hH hR hl hL hS
  dsimp only at hH hR hL hS
  obtain ⟨hv0, hr0, h3, ws, h4, h5, h6, h7, h8, hun, h9⟩ := id hR
  have hpost : ∀ (r : Option tk_V) (oc : Outcome), (r, w, rf, fa) ∈ XS → tk_ret r vals rads oc → ∀ t : State, t.heap = H → s.WarmedH t.vm → tk_Post D cl TY ro X ads tw (XS, mods) vals0 rads0 ws0 Ad args s oc t := fun r oc hX hret t ht hW => ⟨⟨_, hX, vals, rads, ws, hv0, hr0, hH, h3, h4, h5.mono (fun _ _ h => tk_cl_moved hW.alike h), by rw [ht]; exact h6, h7, h9, hun, hret⟩, h8.F ht⟩
  unfold tk_end at h
  split at h
  · split at h
    · next hsk =>
      cases h
      simp [rk_len] at hlen; subst hlen
      dsimp only at hsk
      subst hsk
      have hnil := hS.nil
      subst hnil
      refine W.widen (k := R.cells) (n := R.slots) (Nat.zero_le _) (Nat.zero_le _) ?_
      exact W.vret hx hb hr (hpost none _ hXS rfl) h8.2.2 hdg
    · cases h
  · split at h
    · next a hsk =>
      split at h
      · next hro =>
        cases h
        simp [rk_len] at hlen; subst hlen
        dsimp only at hsk hro
        subst hsk
        obtain ⟨v, k, rfl, hg, hS1⟩ := hS.cons
        have hnil := hS1.nil
        subst hnil
        refine W.widen (k := R.cells) (n := R.slots) (Nat.zero_le _) (Nat.zero_le _) ?_
        obtain ⟨hro, hk⟩ := hro
        obtain ⟨x, rfl, hxn⟩ := tk_g0 hg hk
        have hp2 := hpost (some a) (.returned (some (.int x))) hXS ⟨_, hg, rfl⟩
        unfold tk_rok at hro
        split at hro
        · next ty =>
          have hfit := tk_bt_ok hH.1 hg hro
          unfold tk_bt at hro
          split at hro
          · exact W.iret hx hb hr hp2 h8.2.2 hdg
          · rw [beq_iff_eq] at hro; rw [hk] at hro; cases hro
          · exact W.zret (ty := .boolean) hx hb hr hfit.1 hp2 h8.2.2 hdg
          · cases hro
        · cases hro
      · cases h
    · cases h
  · split at h
    · next a hsk =>
      split at h
      · next hro =>
        cases h
        simp [rk_len] at hlen; subst hlen
        dsimp only at hsk hro
        subst hsk
        obtain ⟨v, k, rfl, hg, hS1⟩ := hS.cons
        have hnil := hS1.nil
        subst hnil
        refine W.widen (k := R.cells) (n := R.slots) (Nat.zero_le _) (Nat.zero_le _) ?_
        obtain ⟨x, rfl, hxn⟩ := tk_g1 hg hro.2
        exact W.lret hx hb (by rw [hr]; exact hro.1) (hpost (some a) _ hXS ⟨_, hg, rfl⟩) h8.2.2 hdg
      · cases h
    · cases h
  · cases h
end TKR
end MH25_0
section MH25_1
/-! ===== tk: a method without cuts, by its run ===== -/
theorem tk_go1_l {fn : Nat → Instr → Option tk_Fn} {ret : Option FieldType} {ml : List (Nat × Instr × Nat)} {q : Nat × tk_S} {x : tk_X} (h : tk_go1 fn ret ml q = some (.inl x)) : ∃ ins len, (q.1, ins, len) ∈ ml ∧ rk_len ins len = true ∧ tk_end ret ins q.2 = some (some x) := by
  unfold tk_go1 at h
  split at h
  · next pc ins len ha =>
    obtain ⟨h1, h2⟩ := tk_at_ok ha
    split at h
    · next hl =>
      split at h
      · next y hy => cases h; exact ⟨ins, len, by rw [← h2]; exact h1, hl, hy⟩
      · cases h
      · split at h
        · split at h
          · cases h
          · cases h
        · cases h
    · cases h
  · cases h
theorem tk_go1_r {fn : Nat → Instr → Option tk_Fn} {ret : Option FieldType} {ml : List (Nat × Instr × Nat)} {q : Nat × tk_S} {l : List (Nat × tk_S)} (h : tk_go1 fn ret ml q = some (.inr l)) : ∃ ins len F, (q.1, ins, len) ∈ ml ∧ rk_len ins len = true ∧ fn q.1 ins = some F ∧ F q.2 = some l := by
  unfold tk_go1 at h
  split at h
  · next pc ins len ha =>
    obtain ⟨h1, h2⟩ := tk_at_ok ha
    dsimp only at h2
    subst h2
    split at h
    · next hl =>
      split at h
      · cases h
      · cases h
      · split at h
        · next F hF =>
          split at h
          · next l2 hl2 => cases h; exact ⟨ins, len, F, h1, hl, hF, hl2⟩
          · cases h
        · cases h
    · cases h
  · cases h
section TKM
variable {p : Program} {l : Launch} {e : Env} {R : Room} {s : State} {m : MethodId} {args : Array Value} {below : List Frame} {meth : Method} {c : Code} {cc : ByteArray} {D : va_G} {cl : List vw_C} {Ad : Nat → Prop} {vals0 : List Int} {rads0 : List Nat}
variable {mods : List (Nat × Nat)} {ws0 : va_W} {tbl xw : List Jvm.Cond} {fty : rk_F} {cln : List String} {MN : List rk_N} {mci : List Nat} {P : List rk_M2} {own : String} {xt : tk_XT} {TY : tk_TT} {ro : Nat → Nat → Int → Prop} {X : va_W → Prop} {ads tw : List Nat}
/-- a run's states are sound: cuts by what is known of them -/
theorem tk_runW (hXs : tk_xs TY X ads tw) (hxt : tk_xtok xt) (hXt : xt Ad s s.heap) (hok : rk_ok tbl xw cl fty cln MN mci P) (hx : p.tables.exec = Jvm.exec) (hb : c.code = cc) (hlocks : meth.locks = false) {M : rk_M2} (hr : meth.sig.returnType = M.2.2.2.2.1) (hml : c.maxLocals = M.2.1) (hins : ∀ r ∈ M.1, decode cc r.1 = .ok r.2) (hF : rk_Fr s m args meth D cl Ad tbl xw fty cln own M.2.2.1 M.2.2.2.1) (hck : ∀ r ∈ M.2.2.1, rk_cok tbl xw MN P own r) (hkk : ∀ r ∈ M.2.2.1, rk_kok tbl own r) {d : Nat} {call : tk_Ca} (hcall : tk_SC l D cl tbl xw xt MN P TY ro X ads tw d call) (hfr : d + 1 ≤ R.frames) (hlo : 40 * (d + 1) ≤ R.locals) {XS : List tk_X} {cut : Nat → tk_S → Option Bool} (hcut : ∀ pc st, cut pc st = some true → tk_St (rk_KW p l e R s m args below meth c (MQ below (tk_Post D cl TY ro X ads tw (XS, mods) vals0 rads0 ws0 Ad) args s R.cells R.slots Ad)) M.2.1 (tk_hr mods ws0 TY ro X ads tw s D cl Ad vals0 rads0) pc st) {fuel : Nat} {work : List (Nat × tk_S)} {xs : List tk_X} (h : tk_loop (tk_go1 (tk_fun mods TY fty mci call M) M.2.2.2.2.1 M.1) cut fuel work [] = some xs) (hX : ∀ x ∈ xs, x ∈ XS) : ∀ q ∈ work, tk_St (rk_KW p l e R s m args below meth c (MQ below (tk_Post D cl TY ro X ads tw (XS, mods) vals0 rads0 ws0 Ad) args s R.cells R.slots Ad)) M.2.1 (tk_hr mods ws0 TY ro X ads tw s D cl Ad vals0 rads0) q.1 q.2 := by
  refine (tk_loop_ok (W := fun pc st => tk_St (rk_KW p l e R s m args below meth c (MQ below (tk_Post D cl TY ro X ads tw (XS, mods) vals0 rads0 ws0 Ad) args s R.cells R.slots Ad)) M.2.1 (tk_hr mods ws0 TY ro X ads tw s D cl Ad vals0 rads0) pc st) (XS := XS) hcut ?_ ?_ fuel work [] xs h hX).2
  · intro z x hz hX2
    obtain ⟨ins, len, g1, g2, g3⟩ := tk_go1_l hz
    have hdg : decode cc z.1 = .ok (ins, len) := hins (z.1, ins, len) g1
    exact tk_end_ok (pc := z.1) (ins := ins) (len := len) (st := z.2) (x := x) hx hb hlocks hr hdg g2 g3 hX2
  · intro z li hz hk
    obtain ⟨ins, len, F, g1, g2, g3, g4⟩ := tk_go1_r hz
    have hdg : decode cc z.1 = .ok (ins, len) := hins (z.1, ins, len) g1
    exact tk_fun_ok hXs (pc := z.1) (ins := ins) (len := len) (F := F) (st := z.2) (res := li) hxt hXt hok hx hb hml hF hck hkk hcall hfr hlo hdg g2 g3 g4 hk
end TKM
def tk_meth (mods : List (Nat × Nat)) (TY : tk_TT) (fty : rk_F) (mci : List Nat) (P : List rk_M2) (fuel : Nat) (call : tk_Ca) : tk_Ca := fun f as w rf fa => match P[f]? with
  | some M => if M.2.1 ≤ 21 ∧ tk_sum as ≤ M.2.1 then (match tk_loop (tk_go1 (tk_fun mods TY fty mci call M) M.2.2.2.2.1 M.1) (fun _ _ => none) fuel [(0, (tk_args 0 as, [], w, rf, fa))] [] with
    | some xs => some (xs, mods)
    | none => none) else none
  | none => none
theorem tk_meth_ok (l : Launch) (D : va_G) {mods : List (Nat × Nat)} {cl : List vw_C} {tbl xw : List Jvm.Cond} {fty : rk_F} {cln : List String} {MN : List rk_N} {mci : List Nat} {P : List rk_M2} {xt : tk_XT} {TY : tk_TT} {ro : Nat → Nat → Int → Prop} {X : va_W → Prop} {ads tw : List Nat} (hXs : tk_xs TY X ads tw) (hxt : tk_xtok xt) (hok : rk_ok tbl xw cl fty cln MN mci P) (fuel : Nat) {d : Nat} {call : tk_Ca} (hcall : tk_SC l D cl tbl xw xt MN P TY ro X ads tw d call) : tk_SC l D cl tbl xw xt MN P TY ro X ads tw (d + 1) (tk_meth mods TY fty mci P fuel call) := by
  intro f as w rf fa o h q hq
  unfold tk_meth at h
  split at h
  · next M hM =>
    split at h
    · next hc =>
      split at h
      · next xs hxs =>
        cases h
        refine ⟨M, hM, hc.1, fun vals rads ws av sz hH h3 hA2 h4 h9 _ => ?_⟩
        obtain ⟨hgw, hxo, hcl, hac, hlenM, hmok, hmci⟩ := id hok
        obtain ⟨m1, m2, m3, m4, m5, m6, m7, m8, m9⟩ := hmok f q M hq hM
        refine Met.ofW (cc := q.2.2) (maxL := M.2.1) (ret := M.2.2.2.2.1) m1 rfl ?_
        intro p e s m args below meth c s₁ B hml hv
        obtain ⟨rfl, hsz, hP, hK, hD0, hC, hxw, hXt, hXw⟩ := hv
        have hts0 := atoms_spec (ws := Jvm.Cond.code q.2.1 q.2.2 M.2.1 M.2.2.2.2.1 :: tbl) B.pre
        have hts : ∀ w ∈ tbl, w.before av.toArray s = true := fun w hw => hts0 w (List.mem_cons_of_mem _ hw)
        have hown : s.vm.findClass q.1 = some m.cls := by rw [← m2]; exact findClass_of_methodNamed B.named
        have hnm : meth.name = q.2.1.name := (name_of_methodNamed B.named B.method).1
        subst hsz
        have hF : rk_Fr s m av.toArray meth D cl (va_A ws s.heap.size) tbl xw fty cln q.1 M.2.2.1 M.2.2.2.1 := ⟨hts, hxw, hown, hK, fun z hz => Or.inr hz, hcl, fun r hr => (m7 r hr).1, fun hz => by rw [hnm]; exact m8 hz, hac, m9⟩
        have key := tk_runW (l := l) (p := p) (e := e) (R := (headSpec (Jvm.Cond.code q.2.1 q.2.2 M.2.1 M.2.2.2.2.1 :: tbl) { frames := d + 1, cells := 0, slots := 0, locals := 40 * (d + 1) }).room) (below := below) (vals0 := vals) (rads0 := rads) (ws0 := ws) (mods := mods) (XS := xs) (cut := fun _ _ => none) hXs hxt hXt hok B.exec B.bytes B.notSynchronized B.returns hml m6 hF (fun r hr => (m7 r hr).2.1) (fun r hr => (m7 r hr).2.2) hcall (Nat.le_refl _) (Nat.le_refl _) (fun _ _ z => nomatch z) hxs (fun x hx => hx) _ (List.mem_singleton.mpr rfl)
        have hlen : (lg_sl av).length ≤ M.2.1 := by
          rw [rk_lgsl, ← tk_sum_ok hA2]
          exact hc.2
        have hl := lv_entry av (n := M.2.1) hlen
        rw [lg_entry_eq]
        exact key vals rads s.heap [] _ [] _ hH ⟨⟨[], by simp⟩, ⟨[], by simp⟩, h3, ws, h4, hC, hP, hD0.self, va_S.rf, ⟨tk_un_rf _ _ _ _, hXw⟩, h9⟩ hl (tk_args_ok 0 hA2) trivial
      · cases h
    · cases h
  · cases h
end MH25_1
section MH25_2
/-! ===== tk: a state is an instance of a template: each of its symbols is a number of the state, each of its references one of the state's ===== -/
def tk_tr (sg : List tk_V) (b : tk_V) : Option tk_V := match b.2.1 with
  | 0 => some b
  | k + 1 => match sg[k]? with
    | some a => some (b.1, a.2.1, b.2.2.1 * a.2.2.1, (b.2.2.1 : Int) * a.2.2.2 + b.2.2.2)
    | none => none
theorem tk_tr_num {vals vB : List Int} {sg : List tk_V} (hs : rk_A2 (fun a x => tk_num vals a = some x) sg vB) {b a : tk_V} (h : tk_tr sg b = some a) : a.1 = b.1 ∧ ∃ x, tk_num vB b = some x ∧ tk_num vals a = some x := by
  unfold tk_tr at h
  split at h
  · next e =>
    obtain rfl := Option.some.inj h
    refine ⟨rfl, b.2.2.2, ?_, ?_⟩
    · unfold tk_num; rw [e]
    · unfold tk_num; rw [e]
  · next k e =>
    split at h
    · next a0 ha =>
      obtain rfl := Option.some.inj h
      obtain ⟨x, hx, hn⟩ := hs.get ha
      refine ⟨rfl, (b.2.2.1 : Int) * x + b.2.2.2, ?_, ?_⟩
      · unfold tk_num; rw [e]; dsimp only; rw [hx]
      · unfold tk_num at hn ⊢
        dsimp only
        split at hn
        · next e0 =>
          obtain rfl := Option.some.inj hn
          rfl
        · next k0 e0 =>
          split at hn
          · next z hz =>
            obtain rfl := Option.some.inj hn
            congr 1
            rw [Int.natCast_mul, Int.mul_add, Int.mul_assoc, Int.add_assoc]
          · cases hn
    · cases h
theorem tk_tr_some {vals vB : List Int} {sg : List tk_V} (hs : rk_A2 (fun a x => tk_num vals a = some x) sg vB) {b : tk_V} {x : Int} (h : tk_num vB b = some x) : ∃ a, tk_tr sg b = some a := by
  unfold tk_num at h
  unfold tk_tr
  split at h
  · next e => rw [e]; exact ⟨_, rfl⟩
  · next k e =>
    rw [e]
    dsimp only
    split at h
    · next z hz =>
      obtain ⟨a, ha, -⟩ := hs.getR hz
      rw [ha]
      exact ⟨_, rfl⟩
    · cases h
abbrev tk_SG : Type := List tk_V × List Nat
def tk_sg (vals : List Int) (rads : List Nat) (q : tk_SG) (vB : List Int) (rB : List Nat) : Prop := rk_A2 (fun a x => tk_num vals a = some x) q.1 vB ∧ rk_A2 (fun (r : Nat) (y : Nat) => rads[r]? = some y) q.2 rB
theorem tk_sg_grow {vals : List Int} {rads : List Nat} {q : tk_SG} {vB : List Int} {rB : List Nat} (l : List Int) (r : List Nat) (h : tk_sg vals rads q vB rB) : tk_sg (vals ++ l) (rads ++ r) q vB rB :=
  ⟨h.1.mono (fun _ _ z => tk_num_grow l z), h.2.mono (fun _ _ z => by rw [List.getElem?_append_left (List.getElem?_eq_some_iff.mp z).1]; exact z)⟩
def tk_m1 (w : tk_W) (q : tk_SG) (a b : tk_V) : Option tk_SG := cond (Nat.beq a.1 b.1) (cond (Nat.ble b.1 1) (cond (Nat.beq b.2.1 (q.1.length + 1) && (Nat.beq b.2.2.1 1 && decide (b.2.2.2 = 0))) (some (q.1 ++ [a], q.2)) (match tk_tr q.1 b with
    | some a' => cond (tk_le w.1 w.2 a' a 0 && tk_le w.1 w.2 a a' 0) (some q) none
    | none => none)) (cond (Nat.beq b.1 2) (cond (Nat.beq b.2.1 q.2.length) (some (q.1, q.2 ++ [a.2.1])) (match q.2[b.2.1]? with
    | some r => cond (Nat.beq r a.2.1) (some q) none
    | none => none)) (some q))) none
theorem tk_gnum {vals : List Int} {rads : List Nat} {a : tk_V} {v : Value} (hk : a.1 ≤ 1) (h : tk_g vals rads a v) : ∃ x, tk_num vals a = some x ∧ ∀ (vB : List Int) (rB : List Nat) (b : tk_V), b.1 = a.1 → tk_num vB b = some x → tk_g vB rB b v := by
  rcases (show a.1 = 0 ∨ a.1 = 1 by omega) with e | e
  · obtain ⟨x, rfl, hx⟩ := tk_g0 h e
    exact ⟨x.toInt, hx, fun vB rB b hb hn => tk_gi (hb.trans e) hn⟩
  · obtain ⟨x, rfl, hx⟩ := tk_g1 h e
    exact ⟨x.toInt, hx, fun vB rB b hb hn => tk_gl (hb.trans e) hn⟩
theorem tk_m1_ok {w : tk_W} {vals : List Int} {rads : List Nat} {q q' : tk_SG} {vB : List Int} {rB : List Nat} {a b : tk_V} {v : Value} (hH : tk_H w vals) (hq : tk_sg vals rads q vB rB) (hg : tk_g vals rads a v) (h : tk_m1 w q a b = some q') : ∃ l r, tk_sg vals rads q' (vB ++ l) (rB ++ r) ∧ tk_g (vB ++ l) (rB ++ r) b v := by
  unfold tk_m1 at h
  cases h1 : Nat.beq a.1 b.1 with
  | false => rw [h1] at h; cases h
  | true =>
    rw [h1] at h
    have e1 : a.1 = b.1 := Nat.eq_of_beq_eq_true h1
    cases h2 : Nat.ble b.1 1 with
    | true =>
      rw [h2] at h
      have e2 : b.1 ≤ 1 := Nat.le_of_ble_eq_true h2
      obtain ⟨x, hx, hB⟩ := tk_gnum (by omega) hg
      cases h3 : (Nat.beq b.2.1 (q.1.length + 1) && (Nat.beq b.2.2.1 1 && decide (b.2.2.2 = 0))) with
      | true =>
        rw [h3] at h
        obtain rfl := Option.some.inj h
        rw [Bool.and_eq_true, Bool.and_eq_true] at h3
        have c1 := Nat.eq_of_beq_eq_true h3.1
        have c2 := Nat.eq_of_beq_eq_true h3.2.1
        have c3 := of_decide_eq_true h3.2.2
        refine ⟨[x], [], ⟨rk_A2.push hq.1 hx, by rw [List.append_nil]; exact hq.2⟩, hB _ _ b e1.symm ?_⟩
        unfold tk_num
        rw [c1]
        dsimp only
        rw [hq.1.len, List.getElem?_append_right (Nat.le_refl _), Nat.sub_self, c2, c3]
        show some (((1 : Nat) : Int) * x + 0) = some x
        congr 1
        omega
      | false =>
        rw [h3] at h
        dsimp only [cond] at h
        split at h
        · next a' ha =>
          cases h4 : (tk_le w.1 w.2 a' a 0 && tk_le w.1 w.2 a a' 0) with
          | false => rw [h4] at h; cases h
          | true =>
            rw [h4] at h
            obtain rfl := Option.some.inj h
            rw [Bool.and_eq_true] at h4
            obtain ⟨k1, y, hy, hy'⟩ := tk_tr_num hq.1 ha
            have l1 := tk_le_ok hH.1 hH.2 hy' hx h4.1
            have l2 := tk_le_ok hH.1 hH.2 hx hy' h4.2
            have : y = x := by omega
            subst this
            exact ⟨[], [], by rw [List.append_nil, List.append_nil]; exact hq, by rw [List.append_nil, List.append_nil]; exact hB _ _ b e1.symm hy⟩
        · cases h
    | false =>
      rw [h2] at h
      have e2 : ¬ b.1 ≤ 1 := fun z => by rw [Nat.ble_eq_true_of_le z] at h2; cases h2
      cases h3 : Nat.beq b.1 2 with
      | true =>
        rw [h3] at h
        have e3 : b.1 = 2 := Nat.eq_of_beq_eq_true h3
        obtain ⟨y, hy, rfl⟩ := tk_g2 hg (e1.trans e3)
        cases h4 : Nat.beq b.2.1 q.2.length with
        | true =>
          rw [h4] at h
          obtain rfl := Option.some.inj h
          refine ⟨[], [y], ⟨by rw [List.append_nil]; exact hq.1, rk_A2.push hq.2 hy⟩, ?_⟩
          unfold tk_g
          rw [e3]
          refine ⟨y, ?_, rfl⟩
          rw [Nat.eq_of_beq_eq_true h4, hq.2.len, List.getElem?_append_right (Nat.le_refl _), Nat.sub_self]
          rfl
        | false =>
          rw [h4] at h
          dsimp only [cond] at h
          split at h
          · next r hr =>
            cases h5 : Nat.beq r a.2.1 with
            | false => rw [h5] at h; cases h
            | true =>
              rw [h5] at h
              obtain rfl := Option.some.inj h
              obtain ⟨y', hy', hrd⟩ := hq.2.get hr
              rw [Nat.eq_of_beq_eq_true h5, hy] at hrd
              obtain rfl := Option.some.inj hrd
              refine ⟨[], [], by rw [List.append_nil, List.append_nil]; exact hq, ?_⟩
              rw [List.append_nil, List.append_nil]
              unfold tk_g
              rw [e3]
              exact ⟨y, hy', rfl⟩
          · cases h
      | false =>
        rw [h3] at h
        obtain rfl := Option.some.inj h
        have e3 : ¬ b.1 = 2 := fun z => by rw [z] at h3; cases h3
        refine ⟨[], [], by rw [List.append_nil, List.append_nil]; exact hq, ?_⟩
        rw [List.append_nil, List.append_nil]
        have hv : v = .null := by
          unfold tk_g at hg
          split at hg
          · next e => omega
          · next e => omega
          · next e => omega
          · exact hg
        unfold tk_g
        split
        · next e => omega
        · next e => omega
        · next e => omega
        · exact hv
def tk_ms (w : tk_W) : tk_SG → List tk_V → List tk_V → Option tk_SG
  | q, [], [] => some q
  | q, a :: as, b :: bs => match tk_m1 w q a b with
    | some q' => tk_ms w q' as bs
    | none => none
  | _, _, _ => none
theorem tk_ms_ok {w : tk_W} {vals : List Int} {rads : List Nat} (hH : tk_H w vals) : ∀ {as bs : List tk_V} {av : List Value} {q q' : tk_SG} {vB : List Int} {rB : List Nat}, tk_sg vals rads q vB rB → rk_A2 (tk_g vals rads) as av → tk_ms w q as bs = some q' → ∃ l r, tk_sg vals rads q' (vB ++ l) (rB ++ r) ∧ rk_A2 (tk_g (vB ++ l) (rB ++ r)) bs av := by
  intro as
  induction as with
  | nil =>
    intro bs av q q' vB rB hq ha h
    cases bs with
    | nil =>
      obtain rfl := Option.some.inj h
      rw [ha.nil]
      exact ⟨[], [], by rw [List.append_nil, List.append_nil]; exact hq, trivial⟩
    | cons b bs => cases h
  | cons a as ih =>
    intro bs av q q' vB rB hq ha h
    cases bs with
    | nil => cases h
    | cons b bs =>
      obtain ⟨v, av, rfl, hg, ha⟩ := ha.cons
      unfold tk_ms at h
      split at h
      · next q1 h1 =>
        obtain ⟨l1, r1, g1, g2⟩ := tk_m1_ok hH hq hg h1
        obtain ⟨l2, r2, g3, g4⟩ := ih g1 ha h
        rw [List.append_assoc, List.append_assoc] at g3 g4
        refine ⟨l1 ++ l2, r1 ++ r2, g3, ?_, g4⟩
        rw [← List.append_assoc, ← List.append_assoc]
        exact tk_g_grow l2 r2 g2
      · cases h
def tk_mlo (w : tk_W) (lo : List (Nat × tk_V)) : tk_SG → List (Nat × tk_V) → Option tk_SG
  | q, [] => some q
  | q, b :: bs => match tk_ld lo b.1 with
    | some a => (match tk_m1 w q a b.2 with
      | some q' => tk_mlo w lo q' bs
      | none => none)
    | none => none
theorem tk_mlo_ok {w : tk_W} {vals : List Int} {rads : List Nat} (hH : tk_H w vals) {lo : List (Nat × tk_V)} {lc : List (Nat × Value)} (hL : tk_Lo vals rads lo lc) : ∀ {bs : List (Nat × tk_V)} {q q' : tk_SG} {vB : List Int} {rB : List Nat}, tk_sg vals rads q vB rB → tk_mlo w lo q bs = some q' → ∃ l r lcB, tk_sg vals rads q' (vB ++ l) (rB ++ r) ∧ tk_Lo (vB ++ l) (rB ++ r) bs lcB ∧ ∀ z ∈ lcB, z ∈ lc := by
  intro bs
  induction bs with
  | nil =>
    intro q q' vB rB hq h
    obtain rfl := Option.some.inj h
    exact ⟨[], [], [], by rw [List.append_nil, List.append_nil]; exact hq, trivial, fun _ z => absurd z List.not_mem_nil⟩
  | cons b bs ih =>
    intro q q' vB rB hq h
    unfold tk_mlo at h
    split at h
    · next a ha =>
      obtain ⟨v, hv, hg⟩ := tk_ld_ok hL ha
      split at h
      · next q1 h1 =>
        obtain ⟨l1, r1, g1, g2⟩ := tk_m1_ok hH hq hg h1
        obtain ⟨l2, r2, lcB, g3, g4, g5⟩ := ih g1 h
        rw [List.append_assoc, List.append_assoc] at g3 g4
        refine ⟨l1 ++ l2, r1 ++ r2, (b.1, v) :: lcB, g3, ⟨⟨rfl, ?_⟩, g4⟩, fun z hz => ?_⟩
        · rw [← List.append_assoc, ← List.append_assoc]
          exact tk_g_grow l2 r2 g2
        · rcases List.mem_cons.mp hz with rfl | hz
          · exact hv
          · exact g5 z hz
      · cases h
    · cases h
/-- what a place of a cell of type t may be, as a new value -/
def tk_xt (TY : tk_TT) (w : tk_W) (rf : List Nat) (t k : Nat) : Option (tk_V × tk_W × List Nat) := match TY.1[t]? with
  | some (.inl o) => (match o.2[k]? with
    | some f => tk_nw w rf f
    | none => none)
  | some (.inr q) => cond (Nat.ble q.2.1 k) none (match tk_fi (tk_ky k) q.2.2 with
    | some f => tk_nx TY.2.1 w rf (tk_ky k) f
    | none => none)
  | none => none
/-- facts: one that isn't known is what its type says -/
def tk_mf (TY : tk_TT) : tk_SG → tk_W → List Nat → tk_FA → tk_FA → Option (tk_SG × tk_W × List Nat × tk_FA)
  | q, w, rf, fa, [] => some (q, w, rf, fa)
  | q, w, rf, fa, b :: bs => match q.2[b.1]?, tk_tr q.1 b.2.1 with
    | some r, some kx => (match tk_fl fa r kx with
      | some a => (match tk_m1 w q a b.2.2 with
        | some q' => tk_mf TY q' w rf fa bs
        | none => none)
      | none => (match rf[r]? with
        | some t => cond (tk_kq b.2.1 (tk_ky b.2.1.2.2.2.toNat)) (match tk_xt TY w rf t b.2.1.2.2.2.toNat with
          | some x => (match tk_m1 x.2.1 q x.1 b.2.2 with
            | some q' => tk_mf TY q' x.2.1 x.2.2 ((r, tk_ky b.2.1.2.2.2.toNat, x.1) :: fa) bs
            | none => none)
          | none => none) none
        | none => none))
    | _, _ => none
section TKI
variable {TY : tk_TT} {ro : Nat → Nat → Int → Prop} {X : va_W → Prop} {ads tw : List Nat} {s : State} {ws : va_W}
theorem tk_xt_ok (hob : tk_ob TY ro ads tw ws) {w : tk_W} {rf : List Nat} {t k y : Nat} {x : tk_V × tk_W × List Nat} {vals : List Int} {rads : List Nat} (hH : tk_H w vals) (h3 : rk_A2 (fun t y => tk_ty ads tw t y) rf rads) (hty : tk_ty ads tw t y) (h : tk_xt TY w rf t k = some x) : ∃ (j : Nat) (e : va_E) (v : Value) (l : List Int) (r : List Nat), ws[j]? = some (y, e) ∧ tk_pos e k = some v ∧ tk_H x.2.1 (vals ++ l) ∧ rk_A2 (fun t y => tk_ty ads tw t y) x.2.2 (rads ++ r) ∧ tk_g (vals ++ l) (rads ++ r) x.1 v := by
  obtain ⟨j, e, hw, hob⟩ := hob t y hty
  unfold tk_xt at h
  split at h
  · next o hT =>
    rw [hT] at hob
    obtain ⟨vs, rfl, hvl, hvs⟩ := hob
    split at h
    · next f hf =>
      have hkl : k < vs.length := by rw [hvl]; exact (List.getElem?_eq_some_iff.mp hf).1
      have hv : vs[k]? = some vs[k] := List.getElem?_eq_getElem hkl
      obtain ⟨l, r, p1, p2, p3⟩ := tk_nw_ok hH h3 (hvs k f _ hf hv) h
      exact ⟨j, _, _, l, r, hw, hv, p1, p2, p3⟩
    · cases h
  · next q hT =>
    rw [hT] at hob
    obtain ⟨cA, z, rfl, hz, hel⟩ := hob
    cases hb : Nat.ble q.2.1 k with
    | true => rw [hb] at h; cases h
    | false =>
      rw [hb] at h
      have hkl : k < q.2.1 := Nat.not_le.mp (fun u => by rw [Nat.ble_eq_true_of_le u] at hb; cases hb)
      dsimp only [cond] at h
      split at h
      · next f hf =>
        have hky : tk_num vals (tk_ky k) = some (k : Int) := rfl
        obtain ⟨l, r, p1, p2, p3⟩ := tk_nx_ok hH h3 hky (tk_fi_ok hky (hel k hkl) hf) h
        refine ⟨j, _, _, l, r, hw, ?_, p1, p2, p3⟩
        show (if k < z.1 then some (tk_el z k) else none) = _
        rw [if_pos (by rw [hz]; exact hkl)]
      · cases h
  · cases h
theorem tk_mf_ok (hob : tk_ob TY ro ads tw ws) : ∀ {bs : tk_FA} {q : tk_SG} {w : tk_W} {rf : List Nat} {fa : tk_FA} {x : tk_SG × tk_W × List Nat × tk_FA} {vals : List Int} {rads : List Nat} {vB : List Int} {rB : List Nat}, tk_H w vals → rk_A2 (fun t y => tk_ty ads tw t y) rf rads → (∀ z ∈ fa, tk_fk vals rads ws z) → tk_sg vals rads q vB rB → tk_mf TY q w rf fa bs = some x → ∃ (l : List Int) (r : List Nat) (lB : List Int) (rB' : List Nat), tk_H x.2.1 (vals ++ l) ∧ rk_A2 (fun t y => tk_ty ads tw t y) x.2.2.1 (rads ++ r) ∧ (∀ z ∈ x.2.2.2, tk_fk (vals ++ l) (rads ++ r) ws z) ∧ tk_sg (vals ++ l) (rads ++ r) x.1 (vB ++ lB) (rB ++ rB') ∧ ∀ z ∈ bs, tk_fk (vB ++ lB) (rB ++ rB') ws z := by
  intro bs
  induction bs with
  | nil =>
    intro q w rf fa x vals rads vB rB hH h3 h9 hq h
    obtain rfl := Option.some.inj h
    refine ⟨[], [], [], [], ?_⟩
    simp only [List.append_nil]
    exact ⟨hH, h3, h9, hq, fun _ z => absurd z List.not_mem_nil⟩
  | cons b bs ih =>
    intro q w rf fa x vals rads vB rB hH h3 h9 hq h
    unfold tk_mf at h
    split at h
    · next r kx hr hkx =>
      obtain ⟨yB, hyB, hyr⟩ := hq.2.get hr
      obtain ⟨-, kz, hkB, hkv⟩ := tk_tr_num hq.1 hkx
      split at h
      · next a ha =>
        split at h
        · next q1 h1 =>
          obtain ⟨k', hk', hm⟩ := tk_fl_mem ha
          obtain ⟨y, j, i, e, v, g1, g2, g3, g4, g5⟩ := h9 _ hm
          dsimp only at g1 g2
          rw [tk_kq_ok hk', hkv] at g2
          obtain ⟨l1, r1, k1, k2⟩ := tk_m1_ok hH hq g5 h1
          obtain ⟨l, r', lB, rB', m1, m2, m3, m4, m5⟩ := ih hH h3 h9 k1 h
          rw [List.append_assoc, List.append_assoc] at m4 m5
          refine ⟨l, r', l1 ++ lB, r1 ++ rB', m1, m2, m3, m4, fun z hz => ?_⟩
          rcases List.mem_cons.mp hz with rfl | hz
          · have hyy : y = yB := by
              have := hyr.symm.trans g1
              exact (Option.some.inj this).symm
            subst hyy
            refine ⟨y, j, i, e, v, by rw [List.getElem?_append_left (List.getElem?_eq_some_iff.mp hyB).1]; exact hyB, tk_num_grow _ (hkB.trans g2), g3, g4, ?_⟩
            rw [← List.append_assoc, ← List.append_assoc]
            exact tk_g_grow lB rB' k2
          · exact m5 z hz
        · cases h
      · split at h
        · next t ht =>
          cases hkq : tk_kq b.2.1 (tk_ky b.2.1.2.2.2.toNat) with
          | false => rw [hkq] at h; cases h
          | true =>
            rw [hkq] at h
            dsimp only [cond] at h
            split at h
            · next x1 hx1 =>
              split at h
              · next q1 h1 =>
                obtain ⟨y, hy, hty⟩ := h3.get ht
                have hyy : y = yB := Option.some.inj (hy.symm.trans hyr)
                subst hyy
                obtain ⟨j, e, v, l0, r0, hw, hv, p1, p2, p3⟩ := tk_xt_ok hob hH h3 hty hx1
                obtain ⟨l1, r1, k1, k2⟩ := tk_m1_ok p1 (tk_sg_grow l0 r0 hq) p3 h1
                have h9' : ∀ z ∈ (r, tk_ky b.2.1.2.2.2.toNat, x1.1) :: fa, tk_fk (vals ++ l0) (rads ++ r0) ws z := by
                  intro z hz
                  rcases List.mem_cons.mp hz with rfl | hz
                  · exact ⟨y, j, b.2.1.2.2.2.toNat, e, v, by rw [List.getElem?_append_left (List.getElem?_eq_some_iff.mp hy).1]; exact hy, rfl, hw, hv, p3⟩
                  · exact tk_fk_grow l0 r0 (h9 z hz)
                obtain ⟨l, r', lB, rB', m1, m2, m3, m4, m5⟩ := ih p1 p2 h9' k1 h
                simp only [List.append_assoc] at m1 m2 m3 m4 m5
                refine ⟨l0 ++ l, r0 ++ r', l1 ++ lB, r1 ++ rB', m1, m2, m3, m4, fun z hz => ?_⟩
                rcases List.mem_cons.mp hz with rfl | hz
                · refine ⟨y, j, z.2.1.2.2.2.toNat, e, v, by rw [List.getElem?_append_left (List.getElem?_eq_some_iff.mp hyB).1]; exact hyB, ?_, hw, hv, ?_⟩
                  · rw [tk_kq_ok hkq]; rfl
                  · rw [← List.append_assoc, ← List.append_assoc]
                    exact tk_g_grow lB rB' k2
                · exact m5 z hz
              · cases h
            · cases h
        · cases h
    · cases h
end TKI
/-- the template's bounds, differences and types hold of what its symbols stand for -/
def tk_fitE (env : List tk_I) : List tk_V → List tk_I → Bool
  | [], [] => true
  | a :: as, I :: Is => (match tk_iv env a with
    | some J => decide (I.1 ≤ J.1) && decide (J.2 ≤ I.2)
    | none => false) && tk_fitE env as Is
  | _, _ => false
theorem tk_fitE_ok {env : List tk_I} {vals : List Int} (hE : tk_E env vals) : ∀ {sg : List tk_V} {eB : List tk_I} {vB : List Int}, rk_A2 (fun a x => tk_num vals a = some x) sg vB → tk_fitE env sg eB = true → tk_E eB vB := by
  intro sg
  induction sg with
  | nil =>
    intro eB vB h hf
    cases eB with
    | nil => rw [h.nil]; trivial
    | cons I Is => cases hf
  | cons a as ih =>
    intro eB vB h hf
    cases eB with
    | nil => cases hf
    | cons I Is =>
      obtain ⟨x, k, rfl, h1, h2⟩ := h.cons
      unfold tk_fitE at hf
      rw [Bool.and_eq_true] at hf
      obtain ⟨f1, f2⟩ := hf
      split at f1
      · next J hJ =>
        rw [Bool.and_eq_true] at f1
        have q1 := of_decide_eq_true f1.1
        have q2 := of_decide_eq_true f1.2
        have := tk_iv_ok hE h1 hJ
        exact ⟨⟨by omega, by omega⟩, ih h2 f2⟩
      · cases f1
def tk_fitC (w : tk_W) (sg : List tk_V) (cB : List tk_Q) : Bool := cB.all (fun q => match sg[q.1]?, sg[q.2.1]? with
  | some a, some b => tk_le w.1 w.2 a b (-q.2.2)
  | _, _ => false)
theorem tk_fitC_ok {w : tk_W} {vals : List Int} (hH : tk_H w vals) {sg : List tk_V} {cB : List tk_Q} {vB : List Int} (h : rk_A2 (fun a x => tk_num vals a = some x) sg vB) (hf : tk_fitC w sg cB = true) : tk_C cB vB := by
  intro q hq
  have := List.all_eq_true.mp hf q hq
  split at this
  · next a b ha hb =>
    obtain ⟨x, hx, nx⟩ := h.get ha
    obtain ⟨y, hy, ny⟩ := h.get hb
    have := tk_le_ok hH.1 hH.2 nx ny this
    exact ⟨x, y, hx, hy, by omega⟩
  · cases this
def tk_fitR (rf : List Nat) : List Nat → List Nat → Bool
  | [], [] => true
  | r :: rs, t :: ts => (match rf[r]? with
    | some u => Nat.beq u t
    | none => false) && tk_fitR rf rs ts
  | _, _ => false
theorem tk_fitR_ok {ads tw rf rads : List Nat} (h3 : rk_A2 (fun t y => tk_ty ads tw t y) rf rads) : ∀ {rs rfB rB : List Nat}, rk_A2 (fun (r : Nat) (y : Nat) => rads[r]? = some y) rs rB → tk_fitR rf rs rfB = true → rk_A2 (fun t y => tk_ty ads tw t y) rfB rB := by
  intro rs
  induction rs with
  | nil =>
    intro rfB rB h hf
    cases rfB with
    | nil => rw [h.nil]; trivial
    | cons I Is => cases hf
  | cons r rs ih =>
    intro rfB rB h hf
    cases rfB with
    | nil => cases hf
    | cons t ts =>
      obtain ⟨y, k, rfl, h1, h2⟩ := h.cons
      unfold tk_fitR at hf
      rw [Bool.and_eq_true] at hf
      obtain ⟨f1, f2⟩ := hf
      split at f1
      · next u hu =>
        have e := Nat.eq_of_beq_eq_true f1
        subst e
        obtain ⟨y', hy', hty⟩ := h3.get hu
        rw [h1] at hy'
        obtain rfl := Option.some.inj hy'
        exact ⟨hty, ih h2 f2⟩
      · cases f1
end MH25_2
section MH25_3
/-! ===== tk: a contract at a call: its ends in the caller's words ===== -/
def tk_tv (q : tk_SG) (b : tk_V) : Option tk_V := cond (Nat.ble b.1 1) (tk_tr q.1 b) (cond (Nat.beq b.1 2) (match q.2[b.2.1]? with
  | some r => some (2, r, 0, 0)
  | none => none) (some b))
theorem tk_tv_ok {vals : List Int} {rads : List Nat} {q : tk_SG} {vB : List Int} {rB : List Nat} {b : tk_V} {v : Value} (hq : tk_sg vals rads q vB rB) (h : tk_g vB rB b v) : ∃ a, tk_tv q b = some a ∧ tk_g vals rads a v := by
  unfold tk_tv
  cases h2 : Nat.ble b.1 1 with
  | true =>
    have e2 : b.1 ≤ 1 := Nat.le_of_ble_eq_true h2
    obtain ⟨x, hx, hB⟩ := tk_gnum e2 h
    obtain ⟨a, ha⟩ := tk_tr_some hq.1 hx
    obtain ⟨k1, y, hy, hy'⟩ := tk_tr_num hq.1 ha
    rw [hx] at hy
    obtain rfl := Option.some.inj hy
    exact ⟨a, ha, hB _ _ a k1 hy'⟩
  | false =>
    have e2 : ¬ b.1 ≤ 1 := fun z => by rw [Nat.ble_eq_true_of_le z] at h2; cases h2
    cases h3 : Nat.beq b.1 2 with
    | true =>
      have e3 : b.1 = 2 := Nat.eq_of_beq_eq_true h3
      obtain ⟨y, hy, rfl⟩ := tk_g2 h e3
      obtain ⟨r, hr, hry⟩ := hq.2.getR hy
      dsimp only [cond]
      rw [hr]
      exact ⟨(2, r, 0, 0), rfl, y, hry, rfl⟩
    | false =>
      have e3 : ¬ b.1 = 2 := fun z => by rw [z] at h3; cases h3
      refine ⟨b, rfl, ?_⟩
      unfold tk_g at h ⊢
      split at h
      · next e => omega
      · next e => omega
      · next e => omega
      · exact h
def tk_nws : Nat → List tk_I → List tk_V
  | _, [] => []
  | n, _ :: r => (0, n + 1, 1, 0) :: tk_nws (n + 1) r
theorem tk_nws_ok : ∀ {l : List Int} {e : List tk_I} {vals : List Int}, tk_E e l → rk_A2 (fun a x => tk_num (vals ++ l) a = some x) (tk_nws vals.length e) l := by
  intro l
  induction l with
  | nil =>
    intro e vals h
    cases e with
    | nil => trivial
    | cons I e => exact h.elim
  | cons x l ih =>
    intro e vals h
    cases e with
    | nil => exact h.elim
    | cons I e =>
      refine ⟨?_, ?_⟩
      · unfold tk_num
        dsimp only
        rw [List.getElem?_append_right (Nat.le_refl _), Nat.sub_self]
        show some (((1 : Nat) : Int) * x + 0) = some x
        congr 1
        omega
      · have := ih (e := e) (vals := vals ++ [x]) h.2
        rw [List.length_append, List.append_assoc] at this
        exact this
def tk_nwr : Nat → List Nat → List Nat
  | _, [] => []
  | n, _ :: r => n :: tk_nwr (n + 1) r
theorem tk_nwr_ok {R : Nat → Nat → Prop} : ∀ {l : List Nat} {e : List Nat} {rads : List Nat}, rk_A2 R e l → rk_A2 (fun (r : Nat) (y : Nat) => (rads ++ l)[r]? = some y) (tk_nwr rads.length e) l := by
  intro l
  induction l with
  | nil =>
    intro e rads h
    cases e with
    | nil => trivial
    | cons I e => exact h.elim
  | cons x l ih =>
    intro e rads h
    cases e with
    | nil => exact h.elim
    | cons I e =>
      refine ⟨?_, ?_⟩
      · show (rads ++ x :: l)[rads.length]? = some x
        rw [List.getElem?_append_right (Nat.le_refl _), Nat.sub_self]
        rfl
      · have := ih (e := e) (rads := rads ++ [x]) h.2
        rw [List.length_append, List.append_assoc] at this
        exact this
def tk_cutE : List tk_I → List tk_V → List tk_I → Option (List tk_I)
  | env, a :: as, I :: Is => (match tk_cut env a I.1 I.2 with
    | some e => tk_cutE e as Is
    | none => none)
  | env, _, _ => some env
theorem tk_cutE_ok {vals : List Int} : ∀ {sg : List tk_V} {env eB : List tk_I} {vB k : List Int}, tk_E env vals → rk_A2 (fun a x => tk_num vals a = some x) sg vB → tk_E eB (vB ++ k) → ∃ e, tk_cutE env sg eB = some e ∧ tk_E e vals := by
  intro sg
  induction sg with
  | nil => intro env eB vB k hE _ _; exact ⟨env, by unfold tk_cutE; rfl, hE⟩
  | cons a as ih =>
    intro env eB vB k hE hs hB
    obtain ⟨x, vB, rfl, h1, h2⟩ := hs.cons
    cases eB with
    | nil => exact hB.elim
    | cons I Is =>
      obtain ⟨e1, g1, g2⟩ := tk_cut_ok hE h1 hB.1.1 hB.1.2
      obtain ⟨e2, g3, g4⟩ := ih g2 h2 hB.2
      refine ⟨e2, ?_, g4⟩
      unfold tk_cutE
      rw [g1]
      exact g3
def tk_addC (sg : List tk_V) : tk_W → List tk_Q → Option tk_W
  | w, [] => some w
  | w, q :: r => match sg[q.1]?, sg[q.2.1]? with
    | some a, some b => (match tk_add w a b (-q.2.2) with
      | some w' => tk_addC sg w' r
      | none => none)
    | _, _ => tk_addC sg w r
theorem tk_addC_ok {vals : List Int} {sg : List tk_V} {vB : List Int} (hs : rk_A2 (fun a x => tk_num vals a = some x) sg vB) : ∀ {cB : List tk_Q} {w : tk_W}, tk_H w vals → tk_C cB vB → ∃ w', tk_addC sg w cB = some w' ∧ tk_H w' vals := by
  intro cB
  induction cB with
  | nil => intro w hH _; exact ⟨w, rfl, hH⟩
  | cons q r ih =>
    intro w hH hC
    obtain ⟨x, y, hx, hy, hxy⟩ := hC q List.mem_cons_self
    obtain ⟨a, ha, na⟩ := hs.getR hx
    obtain ⟨b, hb, nb⟩ := hs.getR hy
    obtain ⟨w1, g1, g2⟩ := tk_add_ok (d := -q.2.2) hH na nb (by omega)
    obtain ⟨w2, g3, g4⟩ := ih g2 (fun z hz => hC z (List.mem_cons_of_mem _ hz))
    refine ⟨w2, ?_, g4⟩
    unfold tk_addC
    rw [ha, hb]
    dsimp only
    rw [g1]
    exact g3
def tk_tf (q : tk_SG) : tk_FA → Option tk_FA
  | [] => some []
  | b :: l => match q.2[b.1]?, tk_tr q.1 b.2.1, tk_tv q b.2.2, tk_tf q l with
    | some r, some k, some a, some l' => some ((r, k, a) :: l')
    | _, _, _, _ => none
theorem tk_tf_ok {vals : List Int} {rads : List Nat} {q : tk_SG} {vB : List Int} {rB : List Nat} {ws : va_W} (hq : tk_sg vals rads q vB rB) : ∀ {fB : tk_FA}, (∀ z ∈ fB, tk_fk vB rB ws z) → ∃ f, tk_tf q fB = some f ∧ ∀ z ∈ f, tk_fk vals rads ws z := by
  intro fB
  induction fB with
  | nil => intro _; exact ⟨[], rfl, fun _ z => absurd z List.not_mem_nil⟩
  | cons b l ih =>
    intro h
    obtain ⟨f, g1, g2⟩ := ih (fun z hz => h z (List.mem_cons_of_mem _ hz))
    obtain ⟨y, j, i, e, v, k1, k2, k3, k4, k5⟩ := h b List.mem_cons_self
    obtain ⟨r, hr, hry⟩ := hq.2.getR k1
    obtain ⟨a, ha, hg⟩ := tk_tv_ok hq k5
    obtain ⟨kx, hkx⟩ := tk_tr_some hq.1 k2
    obtain ⟨-, kz, hkB, hkv⟩ := tk_tr_num hq.1 hkx
    rw [k2] at hkB
    refine ⟨(r, kx, a) :: f, ?_, fun z hz => ?_⟩
    · unfold tk_tf
      rw [hr, hkx, ha, g1]
    · rcases List.mem_cons.mp hz with rfl | hz
      · exact ⟨y, j, i, e, v, hry, hkv.trans hkB.symm, k3, k4, hg⟩
      · exact g2 z hz
/-- the caller's facts that a callee leaves -/
def tk_kept (TY : tk_TT) (mods : List (Nat × Nat)) (env : List tk_I) (t : Nat) (k : tk_V) : Bool := match TY.2.2.1 t with
  | none => !(tk_in mods t 0)
  | some g => tk_rgP (fun i => !(tk_in mods t (g i))) env k
def tk_keep (TY : tk_TT) (mods : List (Nat × Nat)) (env : List tk_I) (rf : List Nat) (fa : tk_FA) : tk_FA := fa.filter (fun z => match rf[z.1]? with
  | some t => tk_kept TY mods env t z.2.1
  | none => false)
theorem tk_kept_ok {TY : tk_TT} {mods : List (Nat × Nat)} {env : List tk_I} {vals : List Int} {t i : Nat} {k : tk_V} (hE : tk_E env vals) (hn : tk_num vals k = some (i : Int)) (h : tk_kept TY mods env t k = true) : ¬ (t, tk_rg TY t i) ∈ mods := by
  intro hm
  have hm := tk_in_ok.mpr hm
  unfold tk_kept at h
  unfold tk_rg at hm
  split at h
  · next e => rw [e] at hm; rw [hm] at h; cases h
  · next g e =>
    rw [e] at hm
    have := tk_rgP_ok (P := fun i => !(tk_in mods t (g i))) hE hn h
    rw [hm] at this
    cases this
theorem tk_keep_ok {TY : tk_TT} {mods : List (Nat × Nat)} {env : List tk_I} {rf : List Nat} {fa : tk_FA} {vals : List Int} {rads ads tw : List Nat} {ws ws' : va_W} {A : Nat → Prop} (hE : tk_E env vals) (h3 : rk_A2 (fun t y => tk_ty ads tw t y) rf rads) (h9 : ∀ z ∈ fa, tk_fk vals rads ws z) (hun : tk_un TY mods tw ws ws') (h4 : ws'.map Prod.fst = ads) (hD : va_D A ws') : ∀ z ∈ tk_keep TY mods env rf fa, tk_fk vals rads ws' z := by
  intro z hz
  obtain ⟨z1, z2⟩ := List.mem_filter.mp hz
  obtain ⟨y, j, i, e, v, k1, k2, k3, k4, k5⟩ := h9 z z1
  split at z2
  · next t ht =>
    obtain ⟨y', hy', j', hj', ht'⟩ := h3.get ht
    rw [k1] at hy'
    obtain rfl := Option.some.inj hy'
    obtain ⟨e', g1, g2, -⟩ := hun j y e k3
    rw [← h4, List.getElem?_map] at hj'
    have hjj : j = j' := by
      cases hw : ws'[j']? with
      | none => rw [hw] at hj'; cases hj'
      | some q =>
        rw [hw] at hj'
        have e : q.1 = y := Option.some.inj hj'
        exact hD.1 j j' _ _ g1 hw e.symm
    subst hjj
    exact ⟨y, j, i, e', v, k1, k2, g1, by rw [g2 i t ht' (tk_kept_ok hE k2 z2)]; exact k4, k5⟩
  · cases z2
def tk_rt (q : tk_SG) (r : Option tk_V) : Option (Option tk_V) := match r with
  | none => some none
  | some b => match tk_tv q b with
    | some a => some (some a)
    | none => none
/-- an end, in the caller's words; none: it can't be -/
def tk_ex (TY : tk_TT) (mods : List (Nat × Nat)) (n0 r0 : Nat) (q : tk_SG) (w : tk_W) (rf : List Nat) (fa : tk_FA) (y : tk_X) : Option tk_X :=
  match tk_cutE (w.1 ++ y.2.1.1.drop n0) q.1 y.2.1.1 with
  | none => none
  | some e => match tk_addC (q.1 ++ tk_nws w.1.length (y.2.1.1.drop n0)) (e, w.2) y.2.1.2 with
    | none => none
    | some w' => match tk_rt (q.1 ++ tk_nws w.1.length (y.2.1.1.drop n0), q.2 ++ tk_nwr rf.length (y.2.2.1.drop r0)) y.1, tk_tf (q.1 ++ tk_nws w.1.length (y.2.1.1.drop n0), q.2 ++ tk_nwr rf.length (y.2.2.1.drop r0)) y.2.2.2 with
      | some r, some f => some (r, w', rf ++ y.2.2.1.drop r0, f ++ tk_keep TY mods w.1 rf fa)
      | _, _ => none
abbrev tk_K : Type := Nat × List tk_V × tk_W × List Nat × tk_FA × tk_O
def tk_inst (TY : tk_TT) (K : tk_K) (f : Nat) (as : List tk_V) (w : tk_W) (rf : List Nat) (fa : tk_FA) : Option tk_O := cond (Nat.beq K.1 f) (match tk_ms w ([], []) as K.2.1 with
  | some q => (match tk_mf TY q w rf fa K.2.2.2.2.1 with
    | some (q', w', rf', fa') => cond (tk_fitE w'.1 q'.1 K.2.2.1.1 && (tk_fitC w' q'.1 K.2.2.1.2 && tk_fitR rf' q'.2 K.2.2.2.1)) (some (K.2.2.2.2.2.1.filterMap (tk_ex TY K.2.2.2.2.2.2 K.2.2.1.1.length K.2.2.2.1.length q' w' rf' fa'), K.2.2.2.2.2.2)) none
    | none => none)
  | none => none) none
def tk_SC1 (l : Launch) (D : va_G) (cl : List vw_C) (tbl xw : List Jvm.Cond) (xt : tk_XT) (MN : List rk_N) (P : List rk_M2) (TY : tk_TT) (ro : Nat → Nat → Int → Prop) (X : va_W → Prop) (ads tw : List Nat) (d : Nat) (f : Nat) (as : List tk_V) (w : tk_W) (rf : List Nat) (fa : tk_FA) (o : tk_O) : Prop :=
  ∀ (q : rk_N), MN[f]? = some q → ∃ M, P[f]? = some M ∧ M.2.1 ≤ 21 ∧ ∀ (vals : List Int) (rads : List Nat) (ws : va_W) (av : List Value) (sz : Nat), tk_H w vals → rk_A2 (fun t y => tk_ty ads tw t y) rf rads → rk_A2 (tk_g vals rads) as av → ws.map Prod.fst = ads → (∀ z ∈ fa, tk_fk vals rads ws z) → tk_ob TY ro ads tw ws →
    Met l q.2.1 (Jvm.Cond.code q.2.1 q.2.2 M.2.1 M.2.2.2.2.1 :: tbl) { frames := d, cells := 0, slots := 0, locals := 40 * d } (tk_Pre D cl xw xt TY ro X ads tw ws sz av) (tk_Post D cl TY ro X ads tw o vals rads ws (va_A ws sz)) 0 0 (va_A ws sz)
def tk_KS (l : Launch) (D : va_G) (cl : List vw_C) (tbl xw : List Jvm.Cond) (xt : tk_XT) (MN : List rk_N) (P : List rk_M2) (TY : tk_TT) (ro : Nat → Nat → Int → Prop) (X : va_W → Prop) (ads tw : List Nat) (d : Nat) (K : tk_K) : Prop := tk_SC1 l D cl tbl xw xt MN P TY ro X ads tw d K.1 K.2.1 K.2.2.1 K.2.2.2.1 K.2.2.2.2.1 K.2.2.2.2.2
section TKK
variable {l : Launch} {D : va_G} {cl : List vw_C} {tbl xw : List Jvm.Cond} {xt : tk_XT} {MN : List rk_N} {P : List rk_M2} {TY : tk_TT} {ro : Nat → Nat → Int → Prop} {X : va_W → Prop} {ads tw : List Nat} {d : Nat}
theorem tk_inst_ok {K : tk_K} (hK : tk_KS l D cl tbl xw xt MN P TY ro X ads tw d K) {f : Nat} {as : List tk_V} {w : tk_W} {rf : List Nat} {fa : tk_FA} {o : tk_O} (h : tk_inst TY K f as w rf fa = some o) : tk_SC1 l D cl tbl xw xt MN P TY ro X ads tw d f as w rf fa o := by
  obtain ⟨fK, asB, wB, rfB, faB, oB⟩ := K
  unfold tk_inst at h
  dsimp only at h
  cases h1 : Nat.beq fK f with
  | false => rw [h1] at h; cases h
  | true =>
    rw [h1] at h
    obtain rfl := Nat.eq_of_beq_eq_true h1
    dsimp only [cond] at h
    split at h
    · next q hms =>
      split at h
      · next q' w' rf' fa' hmf =>
        cases h2 : (tk_fitE w'.1 q'.1 wB.1 && (tk_fitC w' q'.1 wB.2 && tk_fitR rf' q'.2 rfB)) with
        | false => rw [h2] at h; cases h
        | true =>
          rw [h2] at h
          obtain rfl := Option.some.inj h
          rw [Bool.and_eq_true, Bool.and_eq_true] at h2
          obtain ⟨c1, c2, c3⟩ := h2
          intro qn hqn
          obtain ⟨M, hM, hM21, hmet⟩ := hK qn hqn
          refine ⟨M, hM, hM21, fun vals rads ws av sz hH h3 ha h4 h9 hob => ?_⟩
          obtain ⟨l1, r1, g1, g2⟩ := tk_ms_ok (vB := []) (rB := []) hH (q := ([], [])) ⟨trivial, trivial⟩ ha hms
          obtain ⟨l2, r2, l3, r3, m1, m2, m3, m4, m5⟩ := tk_mf_ok (ro := ro) (ads := ads) (tw := tw) hob hH h3 h9 g1 hmf
          have hHB : tk_H wB ([] ++ l1 ++ l3) := ⟨tk_fitE_ok m1.1 m4.1 c1, tk_fitC_ok m1 m4.1 c2⟩
          have h3B := tk_fitR_ok m2 m4.2 c3
          have hargs : rk_A2 (tk_g ([] ++ l1 ++ l3) ([] ++ r1 ++ r3)) asB av := tk_skG g2 l3 r3
          have hn0 : wB.1.length = ([] ++ l1 ++ l3).length := hHB.1.len
          have hr0 : rfB.length = ([] ++ r1 ++ r3).length := h3B.len
          generalize hvB : [] ++ l1 ++ l3 = vB at hHB hargs m4 m5 hn0
          generalize hrB : [] ++ r1 ++ r3 = rB at h3B hargs m4 m5 hr0
          refine rk_Met_imp (hmet vB rB ws av sz hHB h3B hargs h4 m5 hob) (fun _ _ z => z) ?_ (fun _ z => z)
          rintro a st oc t - - ⟨⟨x, hx, vals', rads', ws', ⟨k1, rfl⟩, ⟨k2, rfl⟩, b3, b4, b5, b6, b7, b8, b9, b10, b11⟩, hF⟩
          refine ⟨?_, hF⟩
          have eN : tk_E (x.2.1.1.drop wB.1.length) k1 := by
            have := rk_A2.drop wB.1.length b3.1
            rw [hn0, List.drop_left] at this
            rw [hn0]
            exact this
          have rN : rk_A2 (fun t y => tk_ty ads tw t y) (x.2.2.1.drop rfB.length) k2 := by
            have := rk_A2.drop rfB.length b4
            rw [hr0, List.drop_left] at this
            rw [hr0]
            exact this
          have hE2 : tk_E (w'.1 ++ x.2.1.1.drop wB.1.length) ((vals ++ l2) ++ k1) := rk_A2.app eN m1.1
          have hsg0 := tk_sg_grow k1 k2 m4
          have hsg : tk_sg ((vals ++ l2) ++ k1) ((rads ++ r2) ++ k2) (q'.1 ++ tk_nws w'.1.length (x.2.1.1.drop wB.1.length), q'.2 ++ tk_nwr rf'.length (x.2.2.1.drop rfB.length)) (vB ++ k1) (rB ++ k2) := by
            refine ⟨rk_A2.app ?_ hsg0.1, rk_A2.app ?_ hsg0.2⟩
            · rw [show w'.1.length = (vals ++ l2).length from m1.1.len]
              exact tk_nws_ok eN
            · rw [show rf'.length = (rads ++ r2).length from m2.len]
              exact tk_nwr_ok rN
          obtain ⟨e1, p1, p2⟩ := tk_cutE_ok hE2 hsg0.1 b3.1
          obtain ⟨w2, p3, p4⟩ := tk_addC_ok hsg.1 (w := (e1, w'.2)) ⟨p2, tk_C_grow k1 m1.2⟩ b3.2
          obtain ⟨f2, p5, p6⟩ := tk_tf_ok hsg b9
          have hret : ∃ r, tk_rt (q'.1 ++ tk_nws w'.1.length (x.2.1.1.drop wB.1.length), q'.2 ++ tk_nwr rf'.length (x.2.2.1.drop rfB.length)) x.1 = some r ∧ tk_ret r ((vals ++ l2) ++ k1) ((rads ++ r2) ++ k2) oc := by
            unfold tk_ret at b11
            split at b11
            · next e => rw [e]; exact ⟨none, rfl, b11⟩
            · next b e =>
              obtain ⟨v, hv, hoc⟩ := b11
              obtain ⟨a2, ha2, hg2⟩ := tk_tv_ok hsg hv
              refine ⟨some a2, ?_, v, hg2, hoc⟩
              rw [e]
              unfold tk_rt
              dsimp only
              rw [ha2]
          obtain ⟨r, p7, p8⟩ := hret
          have hex : tk_ex TY oB.2 wB.1.length rfB.length q' w' rf' fa' x = some (r, w2, rf' ++ x.2.2.1.drop rfB.length, f2 ++ tk_keep TY oB.2 w'.1 rf' fa') := by
            unfold tk_ex
            rw [p1]
            dsimp only
            rw [p3]
            dsimp only
            rw [p7, p5]
          refine ⟨_, List.mem_filterMap.mpr ⟨x, hx, hex⟩, (vals ++ l2) ++ k1, (rads ++ r2) ++ k2, ws', ⟨l2 ++ k1, by rw [List.append_assoc]⟩, ⟨r2 ++ k2, by rw [List.append_assoc]⟩, p4, rk_A2.app rN m2, b5, b6, b7, b8, fun z hz => ?_, b10, p8⟩
          rcases List.mem_append.mp hz with hz | hz
          · exact p6 z hz
          · exact tk_fk_grow k1 k2 (tk_keep_ok m1.1 m2 m3 b10.1 b5 b8 z hz)
      · cases h
    · cases h
/-- a table of contracts, the first that fits -/
def tk_tbl (TY : tk_TT) : List tk_K → tk_Ca
  | [], _, _, _, _, _ => none
  | K :: r, f, as, w, rf, fa => match tk_inst TY K f as w rf fa with
    | some o => some o
    | none => tk_tbl TY r f as w rf fa
theorem tk_tbl_ok : ∀ {Ks : List tk_K}, (∀ K ∈ Ks, tk_KS l D cl tbl xw xt MN P TY ro X ads tw d K) → tk_SC l D cl tbl xw xt MN P TY ro X ads tw d (tk_tbl TY Ks) := by
  intro Ks
  induction Ks with
  | nil => intro _ f as w rf fa o h; cases h
  | cons K r ih =>
    intro hK f as w rf fa o h
    unfold tk_tbl at h
    split at h
    · next o' ho => cases h; exact tk_inst_ok (hK K List.mem_cons_self) ho
    · exact ih (fun z hz => hK z (List.mem_cons_of_mem _ hz)) f as w rf fa o h
end TKK
end MH25_3
section MH25_4
/-! ===== tk: methods with loops: cuts at heads, a measure that falls ===== -/
def tk_lx : List Nat → List Nat → Prop
  | a :: as, b :: bs => a < b ∨ (a ≤ b ∧ tk_lx as bs)
  | _, _ => False
theorem tk_lx_ind : ∀ (n : Nat) {P : List Nat → Prop}, (∀ l : List Nat, l.length = n → (∀ l' : List Nat, l'.length = n → tk_lx l' l → P l') → P l) → ∀ l : List Nat, l.length = n → P l := by
  intro n
  induction n with
  | zero =>
    intro P h l hl
    refine h l hl (fun l' hl' hx => ?_)
    have e : l' = [] := List.length_eq_zero_iff.mp hl'
    subst e
    exact hx.elim
  | succ n ih =>
    intro P h l hl
    have key : ∀ a : Nat, ∀ t : List Nat, t.length = n → P (a :: t) := by
      intro a
      induction a using Nat.strongRecOn with
      | ind a iha =>
        intro t ht
        refine ih (P := fun t => P (a :: t)) (fun t ht iht => ?_) t ht
        refine h (a :: t) (by rw [List.length_cons, ht]) (fun l' hl' hx => ?_)
        cases l' with
        | nil => exact hx.elim
        | cons a' t' =>
          have ht' : t'.length = n := by rw [List.length_cons] at hl'; omega
          rcases hx with hx | ⟨hx, hy⟩
          · exact iha a' hx t' ht'
          · rcases Nat.lt_or_ge a' a with hlt | hge
            · exact iha a' hlt t' ht'
            · have e : a' = a := Nat.le_antisymm hx hge
              subst e
              exact iht t' ht' hy
    cases l with
    | nil => cases hl
    | cons a t => exact key a t (by rw [List.length_cons] at hl; omega)
/-- a measure: 0: the value and a number; else a number less the value -/
abbrev tk_Me : Type := Nat × Int × tk_V
def tk_mz (vals : List Int) (m : tk_Me) : Int := match tk_num vals m.2.2 with
  | some x => if m.1 = 0 then x + m.2.1 else m.2.1 - x
  | none => 0
/-- not below 0, and less by d than the other one -/
def tk_mlt (w : tk_W) (a b : tk_Me) (d : Int) : Bool := cond (Nat.beq a.1 0) (Nat.beq b.1 0 && tk_le w.1 w.2 b.2.2 a.2.2 (b.2.1 - a.2.1 + d)) (!(Nat.beq b.1 0) && tk_le w.1 w.2 a.2.2 b.2.2 (b.2.1 - a.2.1 + d))
def tk_mnn (w : tk_W) (b : tk_Me) : Bool := match tk_iv w.1 b.2.2 with
  | some I => cond (Nat.beq b.1 0) (decide (0 ≤ I.1 + b.2.1)) (decide (0 ≤ b.2.1 - I.2))
  | none => false
theorem tk_mlt_ok {w : tk_W} {vals : List Int} {a b : tk_Me} {d x y : Int} (hH : tk_H w vals) (ha : tk_num vals a.2.2 = some x) (hb : tk_num vals b.2.2 = some y) (h : tk_mlt w a b d = true) : tk_mz vals b + d ≤ tk_mz vals a := by
  unfold tk_mlt at h
  unfold tk_mz
  rw [ha, hb]
  dsimp only
  cases h1 : Nat.beq a.1 0 with
  | true =>
    rw [h1] at h
    have h := (Bool.and_eq_true_iff.mp (show (Nat.beq b.1 0 && tk_le w.1 w.2 b.2.2 a.2.2 (b.2.1 - a.2.1 + d)) = true from h))
    have := tk_le_ok hH.1 hH.2 hb ha h.2
    rw [if_pos (Nat.eq_of_beq_eq_true h1), if_pos (Nat.eq_of_beq_eq_true h.1)]
    omega
  | false =>
    rw [h1] at h
    have h := (Bool.and_eq_true_iff.mp (show (!(Nat.beq b.1 0) && tk_le w.1 w.2 a.2.2 b.2.2 (b.2.1 - a.2.1 + d)) = true from h))
    have := tk_le_ok hH.1 hH.2 ha hb h.2
    have e1 : ¬ a.1 = 0 := fun z => by rw [z] at h1; cases h1
    have e2 : ¬ b.1 = 0 := fun z => by rw [z] at h; cases h.1
    rw [if_neg e1, if_neg e2]
    omega
theorem tk_mnn_ok {w : tk_W} {vals : List Int} {b : tk_Me} {y : Int} (hH : tk_H w vals) (hb : tk_num vals b.2.2 = some y) (h : tk_mnn w b = true) : 0 ≤ tk_mz vals b := by
  unfold tk_mnn at h
  unfold tk_mz
  rw [hb]
  dsimp only
  split at h
  · next I hI =>
    have := tk_iv_ok hH.1 hb hI
    cases h1 : Nat.beq b.1 0 with
    | true =>
      rw [h1] at h
      have h := of_decide_eq_true (show decide (0 ≤ I.1 + b.2.1) = true from h)
      rw [if_pos (Nat.eq_of_beq_eq_true h1)]
      omega
    | false =>
      rw [h1] at h
      have h := of_decide_eq_true (show decide (0 ≤ b.2.1 - I.2) = true from h)
      have e1 : ¬ b.1 = 0 := fun z => by rw [z] at h1; cases h1
      rw [if_neg e1]
      omega
  · cases h
/-- the measure falls, the first number first -/
def tk_fall (w : tk_W) (sg : List tk_V) : List tk_Me → List tk_Me → Bool
  | a :: as, b :: bs => match tk_tr sg b.2.2 with
    | some v => (tk_mlt w a (b.1, b.2.1, v) 1 && tk_mnn w (b.1, b.2.1, v)) || (tk_mlt w a (b.1, b.2.1, v) 0 && tk_fall w sg as bs)
    | none => false
  | _, _ => false
theorem tk_fall_ok {w : tk_W} {vals vB : List Int} {sg : List tk_V} (hH : tk_H w vals) (hs : rk_A2 (fun a x => tk_num vals a = some x) sg vB) : ∀ {as bs : List tk_Me}, (∀ a ∈ as, ∃ x, tk_num vals a.2.2 = some x) → tk_fall w sg as bs = true → tk_lx (bs.map (fun b => (tk_mz vB b).toNat)) (as.map (fun a => (tk_mz vals a).toNat)) := by
  intro as
  induction as with
  | nil => intro bs _ h; cases bs <;> cases h
  | cons a as ih =>
    intro bs hn h
    cases bs with
    | nil => cases h
    | cons b bs =>
      unfold tk_fall at h
      split at h
      · next v hv =>
        obtain ⟨x, hx⟩ := hn a List.mem_cons_self
        obtain ⟨k1, y, hy, hy'⟩ := tk_tr_num hs hv
        have e : tk_mz vB b = tk_mz vals (b.1, b.2.1, v) := by
          unfold tk_mz
          rw [hy]
          dsimp only
          rw [hy']
        show (tk_mz vB b).toNat < (tk_mz vals a).toNat ∨ ((tk_mz vB b).toNat ≤ (tk_mz vals a).toNat ∧ tk_lx (bs.map (fun b => (tk_mz vB b).toNat)) (as.map (fun a => (tk_mz vals a).toNat)))
        rw [e]
        rw [Bool.or_eq_true, Bool.and_eq_true, Bool.and_eq_true] at h
        rcases h with ⟨h1, h2⟩ | ⟨h1, h2⟩
        · have q1 := tk_mlt_ok (b := (b.1, b.2.1, v)) hH hx hy' h1
          have q2 := tk_mnn_ok (b := (b.1, b.2.1, v)) hH hy' h2
          left
          omega
        · have q1 := tk_mlt_ok (b := (b.1, b.2.1, v)) hH hx hy' h1
          right
          exact ⟨by omega, ih (fun z hz => hn z (List.mem_cons_of_mem _ hz)) h2⟩
      · cases h
/-- a head: its place, its template, its measure -/
abbrev tk_Hd : Type := Nat × List (Nat × tk_V) × tk_W × List Nat × tk_FA × List tk_Me
def tk_hst (h : tk_Hd) : tk_S := (h.2.1, [], h.2.2.1, h.2.2.2.1, h.2.2.2.2.1)
def tk_fin (w : tk_W) (rf : List Nat) (q : tk_SG) (wB : tk_W) (rfB : List Nat) : Bool := tk_fitE w.1 q.1 wB.1 && (tk_fitC w q.1 wB.2 && tk_fitR rf q.2 rfB)
/-- a state is an instance of a head's template, and the measure falls -/
def tk_hit (TY : tk_TT) (id : tk_SG) (src : Option (List tk_Me)) (h : tk_Hd) (st : tk_S) : Bool := match st.2.1 with
  | [] => (match tk_mlo st.2.2.1 st.1 id h.2.1 with
    | some q => (match tk_mf TY q st.2.2.1 st.2.2.2.1 st.2.2.2.2 h.2.2.2.2.1 with
      | some x => tk_fin x.2.1 x.2.2.1 x.1 h.2.2.1 h.2.2.2.1 && (match src with
        | some ms => tk_fall x.2.1 x.1.1 ms h.2.2.2.2.2
        | none => true)
      | none => false)
    | none => false)
  | _ => false
def tk_cutH (TY : tk_TT) (id : tk_SG) (src : Option (List tk_Me)) (Hs : List tk_Hd) : Nat → tk_S → Option Bool := fun pc st => cond (Hs.any (fun h => Nat.beq h.1 pc)) (some (Hs.any (fun h => Nat.beq h.1 pc && tk_hit TY id src h st))) none
/-- an end is one of the contract's -/
def tk_cov1 (TY : tk_TT) (id : tk_SG) (x y : tk_X) : Bool := match (match x.1, y.1 with
    | none, none => some id
    | some a, some b => tk_m1 x.2.1 id a b
    | _, _ => none) with
  | some q => (match tk_mf TY q x.2.1 x.2.2.1 x.2.2.2 y.2.2.2 with
    | some z => tk_fin z.2.1 z.2.2.1 z.1 y.2.1 y.2.2.1
    | none => false)
  | none => false
def tk_cov (TY : tk_TT) (id : tk_SG) (xs ys : List tk_X) : Bool := xs.all (fun x => ys.any (fun y => tk_cov1 TY id x y))
def tk_id (w : tk_W) (rf : List Nat) : tk_SG := (tk_nws 0 w.1, tk_nwr 0 rf)
theorem tk_id_ok {w : tk_W} {rf : List Nat} {vals : List Int} {rads : List Nat} {R : Nat → Nat → Prop} (hH : tk_H w vals) (h3 : rk_A2 R rf rads) : tk_sg vals rads (tk_id w rf) vals rads := by
  have h1 := tk_nws_ok (vals := []) hH.1
  have h2 := tk_nwr_ok (rads := []) h3
  exact ⟨h1, h2⟩
theorem tk_fin_ok {ads tw rads : List Nat} {w : tk_W} {rf : List Nat} {q : tk_SG} {wB : tk_W} {rfB : List Nat} {vals vB : List Int} {rB : List Nat} (hH : tk_H w vals) (h3 : rk_A2 (fun t y => tk_ty ads tw t y) rf rads) (hq : tk_sg vals rads q vB rB) (h : tk_fin w rf q wB rfB = true) : tk_H wB vB ∧ rk_A2 (fun t y => tk_ty ads tw t y) rfB rB := by
  unfold tk_fin at h
  rw [Bool.and_eq_true, Bool.and_eq_true] at h
  exact ⟨⟨tk_fitE_ok hH.1 hq.1 h.1, tk_fitC_ok hH hq.1 h.2.1⟩, tk_fitR_ok h3 hq.2 h.2.2⟩
theorem tk_MQ_imp {below : List Frame} {Q Q' : Array Value → State → Outcome → State → Prop} {a : Array Value} {s : State} {mc ms : Nat} {free : Addr → Prop} (h : ∀ o t, Q a s o t → Q' a s o t) : ∀ t, MQ below Q a s mc ms free t → MQ below Q' a s mc ms free t := by
  rintro t ⟨o, h1, h2, h3, h4⟩
  exact ⟨o, h1, h2, h _ _ h3, h4⟩
/-- refinements are sound -/
def tk_hkok (TY : tk_TT) (ro : Nat → Nat → Int → Prop) (X : va_W → Prop) (ads tw : List Nat) (hk : Nat → tk_S → Option (List tk_S)) : Prop := ∀ (mods : List (Nat × Nat)) (ws0 : va_W) (s : State) (D : va_G) (cl : List vw_C) (Ad : Nat → Prop) (vals0 : List Int) (rads0 : List Nat) (nL : Nat) (K : rk_K) (pc : Nat) (st : tk_S) (l : List tk_S), hk pc st = some l → (∀ st' ∈ l, tk_St K nL (tk_hr mods ws0 TY ro X ads tw s D cl Ad vals0 rads0) pc st') → tk_St K nL (tk_hr mods ws0 TY ro X ads tw s D cl Ad vals0 rads0) pc st
def tk_hk0 : Nat → tk_S → Option (List tk_S) := fun _ _ => none
theorem tk_hk0_ok {TY : tk_TT} {ro : Nat → Nat → Int → Prop} {X : va_W → Prop} {ads tw : List Nat} : tk_hkok TY ro X ads tw tk_hk0 := fun _ _ _ _ _ _ _ _ _ _ _ _ _ h => nomatch h
/-- a local number of few values is each of them, one by one -/
def tk_hsL {α : Type} (env : List tk_I) (a : tk_V) (mk : List tk_I → α) : Nat → Int → List α
  | 0, _ => []
  | n + 1, v => (match tk_cut env a v v with
    | some e => [mk e]
    | none => []) ++ tk_hsL env a mk n (v + 1)
theorem tk_hsL_ok {α : Type} {env : List tk_I} {vals : List Int} {a : tk_V} {x : Int} {mk : List tk_I → α} (hE : tk_E env vals) (hn : tk_num vals a = some x) : ∀ (n : Nat) (v : Int), v ≤ x → x < v + n → ∃ e, mk e ∈ tk_hsL env a mk n v ∧ tk_E e vals := by
  intro n
  induction n with
  | zero => intro v h1 h2; omega
  | succ n ih =>
    intro v h1 h2
    unfold tk_hsL
    by_cases e : v = x
    · subst e
      obtain ⟨e1, g1, g2⟩ := tk_cut_ok hE hn (Int.le_refl _) (Int.le_refl _)
      rw [g1]
      exact ⟨e1, List.mem_append_left _ (List.mem_singleton.mpr rfl), g2⟩
    · obtain ⟨e1, g1, g2⟩ := ih (v + 1) (by omega) (by omega)
      exact ⟨e1, List.mem_append_right _ g1, g2⟩
/-- differences narrow the bounds -/
def tk_tgt : List tk_Q → List tk_I → Option (List tk_I)
  | [], e => some e
  | q :: r, e => match e[q.1]?, e[q.2.1]? with
    | some I, some J => (match tk_cut e (0, q.1 + 1, 1, 0) I.1 (J.2 + q.2.2) with
      | some e' => tk_tgt r e'
      | none => none)
    | _, _ => tk_tgt r e
theorem tk_tgt_ok {vals : List Int} : ∀ {cs : List tk_Q} {e : List tk_I}, tk_E e vals → tk_C cs vals → ∃ e', tk_tgt cs e = some e' ∧ tk_E e' vals := by
  intro cs
  induction cs with
  | nil => intro e hE _; exact ⟨e, rfl, hE⟩
  | cons q r ih =>
    intro e hE hC
    have hr : tk_C r vals := fun z hz => hC z (List.mem_cons_of_mem _ hz)
    unfold tk_tgt
    split
    · next I J hI hJ =>
      obtain ⟨x, y, hx, hy, hxy⟩ := hC q List.mem_cons_self
      obtain ⟨x', hx', b1, b2⟩ := hE.get hI
      rw [hx] at hx'
      obtain rfl := Option.some.inj hx'
      obtain ⟨y', hy', b3, b4⟩ := hE.get hJ
      rw [hy] at hy'
      obtain rfl := Option.some.inj hy'
      have hn : tk_num vals (0, q.1 + 1, 1, 0) = some x := by
        show (match vals[q.1]? with
          | some z => some (((1 : Nat) : Int) * z + 0)
          | none => none) = some x
        rw [hx]
        show some (((1 : Nat) : Int) * x + 0) = some x
        congr 1
        omega
      obtain ⟨e1, g1, g2⟩ := tk_cut_ok (lo := I.1) (hi := J.2 + q.2.2) hE hn b1 (by omega)
      rw [g1]
      exact ih g2 hr
    · exact ih hE hr
/-- a local number of few values is each of them; else as it is -/
def tk_hs1 (lo : List (Nat × tk_V)) (i : Nat) (env : List tk_I) : List (List tk_I) := match tk_ld lo i with
  | some a => cond (Nat.beq a.1 0) (match tk_iv env a with
    | some I => if I.1 < I.2 ∧ I.2 - I.1 ≤ 300 then tk_hsL env a (fun e => e) (I.2 - I.1 + 1).toNat I.1 else [env]
    | none => [env]) [env]
  | none => [env]
theorem tk_hs1_ok {vals : List Int} {rads : List Nat} {lo : List (Nat × tk_V)} {lc : List (Nat × Value)} {i : Nat} {env : List tk_I} (hL : tk_Lo vals rads lo lc) (hE : tk_E env vals) : ∃ e ∈ tk_hs1 lo i env, tk_E e vals := by
  unfold tk_hs1
  split
  · next a ha =>
    cases hb : Nat.beq a.1 0 with
    | false => exact ⟨env, List.mem_singleton.mpr rfl, hE⟩
    | true =>
      dsimp only [cond]
      split
      · next I hI =>
        split
        · next hI2 =>
          obtain ⟨v, hv, hg⟩ := tk_ld_ok hL ha
          obtain ⟨x, rfl, hx⟩ := tk_g0 hg (Nat.eq_of_beq_eq_true hb)
          have b := tk_iv_ok hE hx hI
          obtain ⟨e1, g1, g2⟩ := tk_hsL_ok (mk := fun e => e) hE hx (I.2 - I.1 + 1).toNat I.1 (by omega) (by omega)
          exact ⟨e1, g1, g2⟩
        · exact ⟨env, List.mem_singleton.mpr rfl, hE⟩
      · exact ⟨env, List.mem_singleton.mpr rfl, hE⟩
  · exact ⟨env, List.mem_singleton.mpr rfl, hE⟩
def tk_hsP (lo : List (Nat × tk_V)) : List Nat → List tk_I → List (List tk_I)
  | [], e => [e]
  | i :: r, e => (tk_hs1 lo i e).flatMap (tk_hsP lo r)
theorem tk_hsP_ok {vals : List Int} {rads : List Nat} {lo : List (Nat × tk_V)} {lc : List (Nat × Value)} (hL : tk_Lo vals rads lo lc) : ∀ {r : List Nat} {env : List tk_I}, tk_E env vals → ∃ e ∈ tk_hsP lo r env, tk_E e vals := by
  intro r
  induction r with
  | nil => intro env hE; exact ⟨env, List.mem_singleton.mpr rfl, hE⟩
  | cons i r ih =>
    intro env hE
    obtain ⟨e1, g1, g2⟩ := tk_hs1_ok (i := i) hL hE
    obtain ⟨e2, g3, g4⟩ := ih g2
    exact ⟨e2, List.mem_flatMap.mpr ⟨e1, g1, g3⟩, g4⟩
def tk_hks (L : List (Nat × List Nat)) : Nat → tk_S → Option (List tk_S) := fun pc st => match L.find? (fun q => Nat.beq q.1 pc) with
  | some q => some ((tk_hsP st.1 q.2 st.2.2.1.1).filterMap (fun e => match tk_tgt st.2.2.1.2 e with
    | some e' => some (st.1, st.2.1, (e', st.2.2.1.2), st.2.2.2)
    | none => none))
  | none => none
theorem tk_hks_ok {TY : tk_TT} {ro : Nat → Nat → Int → Prop} {X : va_W → Prop} {ads tw : List Nat} (L : List (Nat × List Nat)) : tk_hkok TY ro X ads tw (tk_hks L) := by
  intro mods ws0 s D cl Ad vals0 rads0 nL K pc st l h kk
  intro vals rads H locs ls stk lc hH hR hl hL hS
  unfold tk_hks at h
  split at h
  · next q hq =>
    cases h
    obtain ⟨e1, g1, g2⟩ := tk_hsP_ok hL (r := q.2) hH.1
    obtain ⟨e2, g3, g4⟩ := tk_tgt_ok g2 hH.2
    exact kk (st.1, st.2.1, (e2, st.2.2.1.2), st.2.2.2) (List.mem_filterMap.mpr ⟨e1, g1, by rw [g3]⟩) vals rads H locs ls stk lc ⟨g4, hH.2⟩ hR hl hL hS
  · cases h
section TKL
variable {p : Program} {l : Launch} {e : Env} {R : Room} {s : State} {m : MethodId} {args : Array Value} {below : List Frame} {meth : Method} {c : Code} {cc : ByteArray} {D : va_G} {cl : List vw_C} {Ad : Nat → Prop} {nL : Nat} {vals0 : List Int} {rads0 : List Nat}
variable {mods : List (Nat × Nat)} {ws0 : va_W} {tbl xw : List Jvm.Cond} {fty : rk_F} {cln : List String} {MN : List rk_N} {mci : List Nat} {P : List rk_M2} {own : String} {xt : tk_XT} {TY : tk_TT} {ro : Nat → Nat → Int → Prop} {X : va_W → Prop} {ads tw : List Nat}
theorem tk_St_imp {Q Q' : State → Prop} {Hr : tk_Hr} {pc : Nat} {st : tk_S} (hQ : ∀ t, Q t → Q' t) (h : tk_St (rk_KW p l e R s m args below meth c Q) nL Hr pc st) : tk_St (rk_KW p l e R s m args below meth c Q') nL Hr pc st := by
  intro vals rads H locs ls stk lc h1 h2 h3 h4 h5 T hT X
  obtain ⟨t, a, b⟩ := h vals rads H locs ls stk lc h1 h2 h3 h4 h5 T hT X
  exact ⟨t, a, hQ t b⟩
theorem tk_cov_post {w0 : tk_W} {rf0 : List Nat} (hH0 : tk_H w0 vals0) (h30 : rk_A2 (fun t y => tk_ty ads tw t y) rf0 rads0) {x : tk_X} {ys : List tk_X} {y : tk_X} (hy : y ∈ ys) (h : tk_cov1 TY (tk_id w0 rf0) x y = true) {l1 : List Int} {r1 : List Nat} {a : Array Value} {st : State} {oc : Outcome} {t : State} (hp : tk_Post D cl TY ro X ads tw ([x], mods) (vals0 ++ l1) (rads0 ++ r1) ws0 Ad a st oc t) : tk_Post D cl TY ro X ads tw (ys, mods) vals0 rads0 ws0 Ad a st oc t := by
  obtain ⟨⟨x', hx, vals', rads', ws', ⟨k1, rfl⟩, ⟨k2, rfl⟩, b3, b4, b5, b6, b7, b8, b9, b10, b11⟩, hF⟩ := hp
  refine ⟨?_, hF⟩
  obtain rfl := List.mem_singleton.mp hx
  have hid : tk_sg ((vals0 ++ l1) ++ k1) ((rads0 ++ r1) ++ k2) (tk_id w0 rf0) vals0 rads0 := by
    rw [List.append_assoc, List.append_assoc]
    exact tk_sg_grow _ _ (tk_id_ok hH0 h30)
  unfold tk_cov1 at h
  split at h
  · next q hq =>
    split at h
    · next z hz =>
      have hret : ∃ (l2 : List Int) (r2 : List Nat), tk_sg ((vals0 ++ l1) ++ k1) ((rads0 ++ r1) ++ k2) q (vals0 ++ l2) (rads0 ++ r2) ∧ tk_ret y.1 (vals0 ++ l2) (rads0 ++ r2) oc := by
        unfold tk_ret at b11
        split at hq
        · next e1 e2 =>
          obtain rfl := Option.some.inj hq
          rw [e1] at b11
          refine ⟨[], [], by rw [List.append_nil, List.append_nil]; exact hid, ?_⟩
          rw [e2]
          exact b11
        · next a0 b0 e1 e2 =>
          rw [e1] at b11
          obtain ⟨v, hv, hoc⟩ := b11
          obtain ⟨l2, r2, g1, g2⟩ := tk_m1_ok b3 hid hv hq
          refine ⟨l2, r2, g1, ?_⟩
          rw [e2]
          exact ⟨v, g2, hoc⟩
        · cases hq
      obtain ⟨l2, r2, g1, g2⟩ := hret
      obtain ⟨l3, r3, lB, rB', m1, m2, m3, m4, m5⟩ := tk_mf_ok (tk_ob_of b5 b6) b3 b4 b9 g1 hz
      obtain ⟨f1, f2⟩ := tk_fin_ok m1 m2 m4 h
      refine ⟨y, hy, _, _, ws', ⟨l2 ++ lB, by rw [← List.append_assoc]⟩, ⟨r2 ++ rB', by rw [← List.append_assoc]⟩, f1, f2, b5, b6, b7, b8, m5, b10, ?_⟩
      unfold tk_ret at g2 ⊢
      split at g2
      · exact g2
      · obtain ⟨v, hv, hoc⟩ := g2
        exact ⟨v, tk_g_grow lB rB' hv, hoc⟩
    · cases h
  · cases h
theorem tk_step0 (hXs : tk_xs TY X ads tw) (hxt : tk_xtok xt) (hXt : xt Ad s s.heap) (hok : rk_ok tbl xw cl fty cln MN mci P) (hx : p.tables.exec = Jvm.exec) (hb : c.code = cc) {M : rk_M2} (hml : c.maxLocals = M.2.1) (hins : ∀ r ∈ M.1, decode cc r.1 = .ok r.2) (hF : rk_Fr s m args meth D cl Ad tbl xw fty cln own M.2.2.1 M.2.2.2.1) (hck : ∀ r ∈ M.2.2.1, rk_cok tbl xw MN P own r) (hkk : ∀ r ∈ M.2.2.1, rk_kok tbl own r) {d : Nat} {call : tk_Ca} (hcall : tk_SC l D cl tbl xw xt MN P TY ro X ads tw d call) (hfr : d + 1 ≤ R.frames) (hlo : 40 * (d + 1) ≤ R.locals) {Q : State → Prop} {q : Nat × tk_S} {li : List (Nat × tk_S)} (h : tk_go1 (tk_fun mods TY fty mci call M) M.2.2.2.2.1 M.1 q = some (.inr li)) (hk : ∀ z ∈ li, tk_St (rk_KW p l e R s m args below meth c Q) M.2.1 (tk_hr mods ws0 TY ro X ads tw s D cl Ad vals0 rads0) z.1 z.2) : tk_St (rk_KW p l e R s m args below meth c Q) M.2.1 (tk_hr mods ws0 TY ro X ads tw s D cl Ad vals0 rads0) q.1 q.2 := by
  obtain ⟨ins, len, F, g1, g2, g3, g4⟩ := tk_go1_r h
  have hdg : decode cc q.1 = .ok (ins, len) := hins (q.1, ins, len) g1
  exact tk_fun_ok hXs (pc := q.1) (ins := ins) (len := len) (F := F) (st := q.2) (res := li) hxt hXt hok hx hb hml hF hck hkk hcall hfr hlo hdg g2 g3 g4 hk
theorem tk_stepC {hk : Nat → tk_S → Option (List tk_S)} (hhk : tk_hkok TY ro X ads tw hk) (hXs : tk_xs TY X ads tw) (hxt : tk_xtok xt) (hXt : xt Ad s s.heap) (hok : rk_ok tbl xw cl fty cln MN mci P) (hx : p.tables.exec = Jvm.exec) (hb : c.code = cc) {M : rk_M2} (hml : c.maxLocals = M.2.1) (hins : ∀ r ∈ M.1, decode cc r.1 = .ok r.2) (hF : rk_Fr s m args meth D cl Ad tbl xw fty cln own M.2.2.1 M.2.2.2.1) (hck : ∀ r ∈ M.2.2.1, rk_cok tbl xw MN P own r) (hkk : ∀ r ∈ M.2.2.1, rk_kok tbl own r) {d : Nat} {call : tk_Ca} (hcall : tk_SC l D cl tbl xw xt MN P TY ro X ads tw d call) (hfr : d + 1 ≤ R.frames) (hlo : 40 * (d + 1) ≤ R.locals) {Q : State → Prop} {q : Nat × tk_S} {li : List (Nat × tk_S)} (h : tk_go1H hk (tk_fun mods TY fty mci call M) M.2.2.2.2.1 M.1 q = some (.inr li)) (hk : ∀ z ∈ li, tk_St (rk_KW p l e R s m args below meth c Q) M.2.1 (tk_hr mods ws0 TY ro X ads tw s D cl Ad vals0 rads0) z.1 z.2) : tk_St (rk_KW p l e R s m args below meth c Q) M.2.1 (tk_hr mods ws0 TY ro X ads tw s D cl Ad vals0 rads0) q.1 q.2 := by
  unfold tk_go1H at h
  split at h
  · exact tk_step0 hXs hxt hXt hok hx hb hml hins hF hck hkk hcall hfr hlo h hk
  · next l0 hl0 =>
    split at h
    · next r0 hr0 =>
      cases h
      refine hhk _ _ _ _ _ _ _ _ _ _ _ _ _ hl0 (fun st' hst' => ?_)
      obtain ⟨l1, g1, g2⟩ := tk_goL_mem hr0 hst'
      exact tk_step0 (q := (q.1, st')) hXs hxt hXt hok hx hb hml hins hF hck hkk hcall hfr hlo g1 (fun z hz => hk z (g2 z hz))
    · cases h
theorem tk_goH_l {hk : Nat → tk_S → Option (List tk_S)} {fn : Nat → Instr → Option tk_Fn} {ret : Option FieldType} {ml : List (Nat × Instr × Nat)} {q : Nat × tk_S} {x : tk_X} (h : tk_go1H hk fn ret ml q = some (.inl x)) : tk_go1 fn ret ml q = some (.inl x) := by
  unfold tk_go1H at h
  split at h
  · exact h
  · split at h
    · cases h
    · cases h
theorem tk_runC {hk : Nat → tk_S → Option (List tk_S)} (hhk : tk_hkok TY ro X ads tw hk) (hXs : tk_xs TY X ads tw) (hxt : tk_xtok xt) (hXt : xt Ad s s.heap) (hok : rk_ok tbl xw cl fty cln MN mci P) (hx : p.tables.exec = Jvm.exec) (hb : c.code = cc) (hlocks : meth.locks = false) {M : rk_M2} (hr : meth.sig.returnType = M.2.2.2.2.1) (hml : c.maxLocals = M.2.1) (hins : ∀ r ∈ M.1, decode cc r.1 = .ok r.2) (hF : rk_Fr s m args meth D cl Ad tbl xw fty cln own M.2.2.1 M.2.2.2.1) (hck : ∀ r ∈ M.2.2.1, rk_cok tbl xw MN P own r) (hkk : ∀ r ∈ M.2.2.1, rk_kok tbl own r) {d : Nat} {call : tk_Ca} (hcall : tk_SC l D cl tbl xw xt MN P TY ro X ads tw d call) (hfr : d + 1 ≤ R.frames) (hlo : 40 * (d + 1) ≤ R.locals)
    {w0 : tk_W} {rf0 : List Nat} (hH0 : tk_H w0 vals0) (h30 : rk_A2 (fun t y => tk_ty ads tw t y) rf0 rads0) {l1 : List Int} {r1 : List Nat} {ys : List tk_X} {cut : Nat → tk_S → Option Bool} (hcut : ∀ pc st, cut pc st = some true → tk_St (rk_KW p l e R s m args below meth c (MQ below (tk_Post D cl TY ro X ads tw (ys, mods) vals0 rads0 ws0 Ad) args s R.cells R.slots Ad)) M.2.1 (tk_hr mods ws0 TY ro X ads tw s D cl Ad (vals0 ++ l1) (rads0 ++ r1)) pc st) {fuel : Nat} {work : List (Nat × tk_S)} {xs : List tk_X} (h : tk_loop (tk_go1H hk (tk_fun mods TY fty mci call M) M.2.2.2.2.1 M.1) cut fuel work [] = some xs) (hX : tk_cov TY (tk_id w0 rf0) xs ys = true) : ∀ q ∈ work, tk_St (rk_KW p l e R s m args below meth c (MQ below (tk_Post D cl TY ro X ads tw (ys, mods) vals0 rads0 ws0 Ad) args s R.cells R.slots Ad)) M.2.1 (tk_hr mods ws0 TY ro X ads tw s D cl Ad (vals0 ++ l1) (rads0 ++ r1)) q.1 q.2 := by
  refine (tk_loop_ok (W := fun pc st => tk_St (rk_KW p l e R s m args below meth c (MQ below (tk_Post D cl TY ro X ads tw (ys, mods) vals0 rads0 ws0 Ad) args s R.cells R.slots Ad)) M.2.1 (tk_hr mods ws0 TY ro X ads tw s D cl Ad (vals0 ++ l1) (rads0 ++ r1)) pc st) (XS := xs) hcut ?_ ?_ fuel work [] xs h (fun _ z => z)).2
  · intro z x hz hX2
    obtain ⟨ins, len, g1, g2, g3⟩ := tk_go1_l (tk_goH_l hz)
    have hdg : decode cc z.1 = .ok (ins, len) := hins (z.1, ins, len) g1
    obtain ⟨y, hy, hc⟩ := List.any_eq_true.mp (List.all_eq_true.mp hX x hX2)
    exact tk_St_imp (tk_MQ_imp (fun o t hp => tk_cov_post hH0 h30 hy hc hp)) (tk_end_ok (XS := [x]) (pc := z.1) (ins := ins) (len := len) (st := z.2) (x := x) hx hb hlocks hr hdg g2 g3 (List.mem_singleton.mpr rfl))
  · intro z li hz hk
    exact tk_stepC hhk hXs hxt hXt hok hx hb hml hins hF hck hkk hcall hfr hlo hz hk
/-- a state that is an instance of a head's template -/
theorem tk_hit_ok {w0 : tk_W} {rf0 : List Nat} (hH0 : tk_H w0 vals0) (h30 : rk_A2 (fun t y => tk_ty ads tw t y) rf0 rads0) {l1 : List Int} {r1 : List Nat} {K : rk_K} {src : Option (List tk_Me)} {h : tk_Hd} {pc : Nat} {st : tk_S} (hh : tk_hit TY (tk_id w0 rf0) src h st = true) (hsrc : ∀ ms, src = some ms → ∀ a ∈ ms, ∃ x, tk_num (vals0 ++ l1) a.2.2 = some x)
    (kk : ∀ (vals : List Int) (rads : List Nat) (H : Heap) (locs : List Loc) (ls : Array Slot) (stk : List Value) (lc : List (Nat × Value)), (∀ ms, src = some ms → tk_lx (h.2.2.2.2.2.map (fun b => (tk_mz vals b).toNat)) (ms.map (fun a => (tk_mz (vals0 ++ l1) a).toNat))) → tk_H h.2.2.1 vals → tk_hr mods ws0 TY ro X ads tw s D cl Ad vals0 rads0 vals rads H locs h.2.2.2.1 h.2.2.2.2.1 → lv_has ls nL lc → tk_Lo vals rads h.2.1 lc → rk_A2 (tk_g vals rads) [] stk → K pc ls stk H locs 0 0) : tk_St K nL (tk_hr mods ws0 TY ro X ads tw s D cl Ad (vals0 ++ l1) (rads0 ++ r1)) pc st := by
  obtain ⟨lo, sk, w, rf, fa⟩ := st
  intro vals rads H locs ls stk lc hH hR hl hL hS
  dsimp only at hH hR hL hS
  unfold tk_hit at hh
  dsimp only at hh
  split at hh
  · split at hh
    · next q hq =>
      split at hh
      · next x hx =>
        rw [Bool.and_eq_true] at hh
        obtain ⟨hh1, hh2⟩ := hh
        obtain ⟨⟨kv, rfl⟩, ⟨kr, rfl⟩, h3, ws, h4, h5, h6, h7, h8, hun, h9⟩ := hR
        have hid : tk_sg ((vals0 ++ l1) ++ kv) ((rads0 ++ r1) ++ kr) (tk_id w0 rf0) vals0 rads0 := by
          rw [List.append_assoc, List.append_assoc]
          exact tk_sg_grow _ _ (tk_id_ok hH0 h30)
        obtain ⟨l2, r2, lcB, g1, g2, g3⟩ := tk_mlo_ok hH hL hid hq
        obtain ⟨l3, r3, lB, rB', m1, m2, m3, m4, m5⟩ := tk_mf_ok (tk_ob_of h4 h5) hH h3 h9 g1 hx
        obtain ⟨f1, f2⟩ := tk_fin_ok m1 m2 m4 hh1
        refine kk ((vals0 ++ l2) ++ lB) ((rads0 ++ r2) ++ rB') H locs ls stk lcB ?_ f1 ⟨⟨l2 ++ lB, by rw [List.append_assoc]⟩, ⟨r2 ++ rB', by rw [List.append_assoc]⟩, f2, ws, h4, h5, h6, h7, h8, hun, m5⟩ ⟨hl.1, hl.2.1, fun z hz => hl.2.2 z (g3 z hz)⟩ (g2.grow lB rB') ?_
        · intro ms hms
          rw [hms] at hh2
          have hn := hsrc ms hms
          have := tk_fall_ok m1 m4.1 (as := ms) (fun a ha => by
            obtain ⟨x, hx⟩ := hn a ha
            exact ⟨x, tk_num_grow l3 (tk_num_grow kv hx)⟩) hh2
          have e : ms.map (fun a => (tk_mz ((vals0 ++ l1) ++ kv ++ l3) a).toNat) = ms.map (fun a => (tk_mz (vals0 ++ l1) a).toNat) := by
            refine List.map_congr_left (fun a ha => ?_)
            obtain ⟨x, hx⟩ := hn a ha
            unfold tk_mz
            rw [hx, tk_num_grow l3 (tk_num_grow kv hx)]
          rw [← e]
          exact this
        · rw [hS.nil]
          trivial
      · cases hh
    · cases hh
  · cases hh
end TKL
end MH25_4
section MH25_5
/-! ===== tk: a contract with loops, checked ===== -/
theorem tk_num_some {env : List tk_I} {vals : List Int} {a : tk_V} (hE : tk_E env vals) (h : (tk_iv env a).isSome = true) : ∃ x, tk_num vals a = some x := by
  unfold tk_iv at h
  unfold tk_num
  split at h
  · next e => exact ⟨_, rfl⟩
  · next k e =>
    split at h
    · next I hI =>
      obtain ⟨x, hx, -⟩ := hE.get hI
      rw [hx]
      exact ⟨_, rfl⟩
    · cases h
def tk_run0 (hk : Nat → tk_S → Option (List tk_S)) (TY : tk_TT) (fty : rk_F) (mci : List Nat) (call : tk_Ca) (fuel : Nat) (K : tk_K) (Hs : List tk_Hd) (M : rk_M2) : Bool := match tk_loop (tk_go1H hk (tk_fun K.2.2.2.2.2.2 TY fty mci call M) M.2.2.2.2.1 M.1) (tk_cutH TY (tk_id K.2.2.1 K.2.2.2.1) none Hs) fuel [(0, (tk_args 0 K.2.1, [], K.2.2.1, K.2.2.2.1, K.2.2.2.2.1))] [] with
  | some xs => tk_cov TY (tk_id K.2.2.1 K.2.2.2.1) xs K.2.2.2.2.2.1
  | none => false
/-- where a head stands at the method's first place, its first step isn't cut -/
def tk_run00 (hk : Nat → tk_S → Option (List tk_S)) (TY : tk_TT) (fty : rk_F) (mci : List Nat) (call : tk_Ca) (fuel : Nat) (K : tk_K) (Hs : List tk_Hd) (M : rk_M2) : Bool := match tk_go1H hk (tk_fun K.2.2.2.2.2.2 TY fty mci call M) M.2.2.2.2.1 M.1 (0, (tk_args 0 K.2.1, [], K.2.2.1, K.2.2.2.1, K.2.2.2.2.1)) with
  | some (.inr l) => (match tk_loop (tk_go1H hk (tk_fun K.2.2.2.2.2.2 TY fty mci call M) M.2.2.2.2.1 M.1) (tk_cutH TY (tk_id K.2.2.1 K.2.2.2.1) none Hs) fuel l [] with
    | some xs => tk_cov TY (tk_id K.2.2.1 K.2.2.2.1) xs K.2.2.2.2.2.1
    | none => false)
  | _ => false
def tk_run1 (hk : Nat → tk_S → Option (List tk_S)) (TY : tk_TT) (fty : rk_F) (mci : List Nat) (call : tk_Ca) (fuel : Nat) (K : tk_K) (Hs : List tk_Hd) (M : rk_M2) (h : tk_Hd) : Bool := match tk_go1H hk (tk_fun K.2.2.2.2.2.2 TY fty mci call M) M.2.2.2.2.1 M.1 (h.1, tk_hst h) with
  | some (.inr l) => (match tk_loop (tk_go1H hk (tk_fun K.2.2.2.2.2.2 TY fty mci call M) M.2.2.2.2.1 M.1) (tk_cutH TY (tk_id K.2.2.1 K.2.2.2.1) (some h.2.2.2.2.2) Hs) fuel l [] with
    | some xs => tk_cov TY (tk_id K.2.2.1 K.2.2.2.1) xs K.2.2.2.2.2.1
    | none => false)
  | _ => false
def tk_hok (n : Nat) (h : tk_Hd) : Bool := Nat.beq h.2.2.2.2.2.length n && h.2.2.2.2.2.all (fun a => (tk_iv h.2.2.1.1 a.2.2).isSome)
def tk_methL (hk : Nat → tk_S → Option (List tk_S)) (TY : tk_TT) (fty : rk_F) (mci : List Nat) (P : List rk_M2) (call : tk_Ca) (fuel n : Nat) (K : tk_K) (Hs : List tk_Hd) : Bool := match P[K.1]? with
  | some M => (Nat.ble M.2.1 21 && Nat.ble (tk_sum K.2.1) M.2.1) && (cond (Hs.any (fun h => Nat.beq h.1 0)) (tk_run00 hk TY fty mci call fuel K Hs M) (tk_run0 hk TY fty mci call fuel K Hs M) && Hs.all (fun h => tk_hok n h && tk_run1 hk TY fty mci call fuel K Hs M h))
  | none => false
section TKLM
variable {l : Launch} {D : va_G} {cl : List vw_C} {tbl xw : List Jvm.Cond} {fty : rk_F} {cln : List String} {MN : List rk_N} {mci : List Nat} {P : List rk_M2} {xt : tk_XT} {TY : tk_TT} {ro : Nat → Nat → Int → Prop} {X : va_W → Prop} {ads tw : List Nat}
theorem tk_methL_ok {hk : Nat → tk_S → Option (List tk_S)} (hhk : tk_hkok TY ro X ads tw hk) (hXs : tk_xs TY X ads tw) (hxt : tk_xtok xt) (hok : rk_ok tbl xw cl fty cln MN mci P) {fuel n d : Nat} {call : tk_Ca} (hcall : tk_SC l D cl tbl xw xt MN P TY ro X ads tw d call) {K : tk_K} {Hs : List tk_Hd} (h : tk_methL hk TY fty mci P call fuel n K Hs = true) : tk_KS l D cl tbl xw xt MN P TY ro X ads tw (d + 1) K := by
  obtain ⟨f, as, w, rf, fa, ys, mods⟩ := K
  unfold tk_methL at h
  dsimp only at h
  split at h
  · next M hM =>
    rw [Bool.and_eq_true, Bool.and_eq_true, Bool.and_eq_true] at h
    obtain ⟨⟨hc1, hc2⟩, hrun, hall⟩ := h
    have hc1 := Nat.le_of_ble_eq_true hc1
    have hc2 := Nat.le_of_ble_eq_true hc2
    intro q hq
    refine ⟨M, hM, hc1, fun vals rads ws av sz hH h3 hA2 h4 h9 _ => ?_⟩
    obtain ⟨hgw, hxo, hcl, hac, hlenM, hmok, hmci⟩ := id hok
    obtain ⟨m1, m2, m3, m4, m5, m6, m7, m8, m9⟩ := hmok f q M hq hM
    refine Met.ofW (cc := q.2.2) (maxL := M.2.1) (ret := M.2.2.2.2.1) m1 rfl ?_
    intro p e s m args below meth c s₁ B hml hv
    obtain ⟨rfl, hsz, hP, hK, hD0, hC, hxw, hXt, hXw⟩ := hv
    have hts0 := atoms_spec (ws := Jvm.Cond.code q.2.1 q.2.2 M.2.1 M.2.2.2.2.1 :: tbl) B.pre
    have hts : ∀ w ∈ tbl, w.before av.toArray s = true := fun w hw => hts0 w (List.mem_cons_of_mem _ hw)
    have hown : s.vm.findClass q.1 = some m.cls := by rw [← m2]; exact findClass_of_methodNamed B.named
    have hnm : meth.name = q.2.1.name := (name_of_methodNamed B.named B.method).1
    subst hsz
    have hF : rk_Fr s m av.toArray meth D cl (va_A ws s.heap.size) tbl xw fty cln q.1 M.2.2.1 M.2.2.2.1 := ⟨hts, hxw, hown, hK, fun z hz => Or.inr hz, hcl, fun r hr => (m7 r hr).1, fun hz => by rw [hnm]; exact m8 hz, hac, m9⟩
    have hins : ∀ r ∈ M.1, decode q.2.2 r.1 = .ok r.2 := m6
    have hck : ∀ r ∈ M.2.2.1, rk_cok tbl xw MN P q.1 r := fun r hr => (m7 r hr).2.1
    have hkk : ∀ r ∈ M.2.2.1, rk_kok tbl q.1 r := fun r hr => (m7 r hr).2.2
    have heads : ∀ μ : List Nat, μ.length = n → ∀ h ∈ Hs, ∀ (vals1 : List Int) (rads1 : List Nat) (H : Heap) (locs : List Loc) (ls : Array Slot) (stk : List Value) (lc : List (Nat × Value)), h.2.2.2.2.2.map (fun b => (tk_mz vals1 b).toNat) = μ → tk_H h.2.2.1 vals1 → tk_hr mods ws TY ro X ads tw s D cl (va_A ws s.heap.size) vals rads vals1 rads1 H locs h.2.2.2.1 h.2.2.2.2.1 → lv_has ls M.2.1 lc → tk_Lo vals1 rads1 h.2.1 lc → rk_A2 (tk_g vals1 rads1) [] stk → rk_KW p l e (headSpec (Jvm.Cond.code q.2.1 q.2.2 M.2.1 M.2.2.2.2.1 :: tbl) { frames := d + 1, cells := 0, slots := 0, locals := 40 * (d + 1) }).room s m av.toArray below meth c (MQ below (tk_Post D cl TY ro X ads tw (ys, mods) vals rads ws (va_A ws s.heap.size)) av.toArray s (headSpec (Jvm.Cond.code q.2.1 q.2.2 M.2.1 M.2.2.2.2.1 :: tbl) { frames := d + 1, cells := 0, slots := 0, locals := 40 * (d + 1) }).room.cells (headSpec (Jvm.Cond.code q.2.1 q.2.2 M.2.1 M.2.2.2.2.1 :: tbl) { frames := d + 1, cells := 0, slots := 0, locals := 40 * (d + 1) }).room.slots (va_A ws s.heap.size)) h.1 ls stk H locs 0 0 := by
      refine tk_lx_ind n (fun μ hμ ih h hh vals1 rads1 H locs ls stk lc hms hH1 hR1 hl1 hL1 hS1 => ?_)
      have hh2 := List.all_eq_true.mp hall h hh
      rw [Bool.and_eq_true] at hh2
      obtain ⟨hhm, hrun1⟩ := hh2
      unfold tk_hok at hhm
      rw [Bool.and_eq_true] at hhm
      have hnum : ∀ a ∈ h.2.2.2.2.2, ∃ x, tk_num vals1 a.2.2 = some x := fun a ha => tk_num_some hH1.1 (List.all_eq_true.mp hhm.2 a ha)
      unfold tk_run1 at hrun1
      split at hrun1
      · next li hgo =>
        split at hrun1
        · next xs hxs =>
          obtain ⟨⟨l1, rfl⟩, ⟨r1, rfl⟩, hrest⟩ := hR1
          have hcut : ∀ pc st, tk_cutH TY (tk_id w rf) (some h.2.2.2.2.2) Hs pc st = some true → tk_St (rk_KW p l e (headSpec (Jvm.Cond.code q.2.1 q.2.2 M.2.1 M.2.2.2.2.1 :: tbl) { frames := d + 1, cells := 0, slots := 0, locals := 40 * (d + 1) }).room s m av.toArray below meth c (MQ below (tk_Post D cl TY ro X ads tw (ys, mods) vals rads ws (va_A ws s.heap.size)) av.toArray s (headSpec (Jvm.Cond.code q.2.1 q.2.2 M.2.1 M.2.2.2.2.1 :: tbl) { frames := d + 1, cells := 0, slots := 0, locals := 40 * (d + 1) }).room.cells (headSpec (Jvm.Cond.code q.2.1 q.2.2 M.2.1 M.2.2.2.2.1 :: tbl) { frames := d + 1, cells := 0, slots := 0, locals := 40 * (d + 1) }).room.slots (va_A ws s.heap.size))) M.2.1 (tk_hr mods ws TY ro X ads tw s D cl (va_A ws s.heap.size) (vals ++ l1) (rads ++ r1)) pc st := by
            intro pc st hc
            unfold tk_cutH at hc
            cases hb1 : Hs.any (fun h => Nat.beq h.1 pc) with
            | false => rw [hb1] at hc; cases hc
            | true =>
              rw [hb1] at hc
              obtain ⟨h', hh', hc2⟩ := List.any_eq_true.mp (Option.some.inj (show some (Hs.any (fun h' => Nat.beq h'.1 pc && tk_hit TY (tk_id w rf) (some h.2.2.2.2.2) h' st)) = some true from hc))
              rw [Bool.and_eq_true] at hc2
              obtain ⟨hpc, hhit⟩ := hc2
              have hpc := Nat.eq_of_beq_eq_true hpc
              subst hpc
              refine tk_hit_ok hH h3 hhit (fun ms hms2 => by cases hms2; exact hnum) (fun vals2 rads2 H2 locs2 ls2 stk2 lc2 hlx hH2 hR2 hl2 hL2 hS2 => ?_)
              have hlx2 := hlx _ rfl
              rw [hms] at hlx2
              have hh3 := List.all_eq_true.mp hall h' hh'
              rw [Bool.and_eq_true] at hh3
              have hk3 := hh3.1
              unfold tk_hok at hk3
              rw [Bool.and_eq_true] at hk3
              exact ih _ (by rw [List.length_map]; exact Nat.eq_of_beq_eq_true hk3.1) hlx2 h' hh' vals2 rads2 H2 locs2 ls2 stk2 lc2 rfl hH2 hR2 hl2 hL2 hS2
          have hW := tk_runC (mods := mods) hhk hXs hxt hXt hok B.exec B.bytes B.notSynchronized B.returns hml hins hF hck hkk hcall (Nat.le_refl _) (Nat.le_refl _) hH h3 (l1 := l1) (r1 := r1) hcut hxs hrun1
          have hSt := tk_stepC hhk hXs hxt hXt hok B.exec B.bytes hml hins hF hck hkk hcall (Nat.le_refl _) (Nat.le_refl _) hgo hW
          exact hSt (vals ++ l1) (rads ++ r1) H locs ls stk lc hH1 ⟨⟨[], by rw [List.append_nil]⟩, ⟨[], by rw [List.append_nil]⟩, hrest⟩ hl1 hL1 hS1
        · cases hrun1
      · cases hrun1
    have hlen : (lg_sl av).length ≤ M.2.1 := by
      rw [rk_lgsl, ← tk_sum_ok hA2]
      exact hc2
    have hl := lv_entry av (n := M.2.1) hlen
    rw [lg_entry_eq]
    have hcut0 : ∀ pc st, tk_cutH TY (tk_id w rf) none Hs pc st = some true → tk_St (rk_KW p l e (headSpec (Jvm.Cond.code q.2.1 q.2.2 M.2.1 M.2.2.2.2.1 :: tbl) { frames := d + 1, cells := 0, slots := 0, locals := 40 * (d + 1) }).room s m av.toArray below meth c (MQ below (tk_Post D cl TY ro X ads tw (ys, mods) vals rads ws (va_A ws s.heap.size)) av.toArray s (headSpec (Jvm.Cond.code q.2.1 q.2.2 M.2.1 M.2.2.2.2.1 :: tbl) { frames := d + 1, cells := 0, slots := 0, locals := 40 * (d + 1) }).room.cells (headSpec (Jvm.Cond.code q.2.1 q.2.2 M.2.1 M.2.2.2.2.1 :: tbl) { frames := d + 1, cells := 0, slots := 0, locals := 40 * (d + 1) }).room.slots (va_A ws s.heap.size))) M.2.1 (tk_hr mods ws TY ro X ads tw s D cl (va_A ws s.heap.size) (vals ++ []) (rads ++ [])) pc st := by
      intro pc st hc
      unfold tk_cutH at hc
      cases hb1 : Hs.any (fun h => Nat.beq h.1 pc) with
      | false => rw [hb1] at hc; cases hc
      | true =>
        rw [hb1] at hc
        obtain ⟨h', hh', hc2⟩ := List.any_eq_true.mp (Option.some.inj (show some (Hs.any (fun h' => Nat.beq h'.1 pc && tk_hit TY (tk_id w rf) none h' st)) = some true from hc))
        rw [Bool.and_eq_true] at hc2
        obtain ⟨hpc, hhit⟩ := hc2
        have hpc := Nat.eq_of_beq_eq_true hpc
        subst hpc
        refine tk_hit_ok hH h3 hhit (fun ms hms2 => by cases hms2) (fun vals2 rads2 H2 locs2 ls2 stk2 lc2 _ hH2 hR2 hl2 hL2 hS2 => ?_)
        have hh3 := List.all_eq_true.mp hall h' hh'
        rw [Bool.and_eq_true] at hh3
        have hk3 := hh3.1
        unfold tk_hok at hk3
        rw [Bool.and_eq_true] at hk3
        exact heads _ (by rw [List.length_map]; exact Nat.eq_of_beq_eq_true hk3.1) h' hh' vals2 rads2 H2 locs2 ls2 stk2 lc2 rfl hH2 hR2 hl2 hL2 hS2
    cases hb0 : Hs.any (fun h => Nat.beq h.1 0) with
    | true =>
      rw [hb0] at hrun
      unfold tk_run00 at hrun
      dsimp only [cond] at hrun
      split at hrun
      · next li hgo =>
        split at hrun
        · next xs hxs =>
          have hW := tk_runC (mods := mods) hhk hXs hxt hXt hok B.exec B.bytes B.notSynchronized B.returns hml hins hF hck hkk hcall (Nat.le_refl _) (Nat.le_refl _) hH h3 (l1 := []) (r1 := []) hcut0 hxs hrun
          have key := tk_stepC hhk hXs hxt hXt hok B.exec B.bytes hml hins hF hck hkk hcall (Nat.le_refl _) (Nat.le_refl _) hgo hW
          exact key vals rads s.heap [] _ [] _ hH ⟨⟨[], by simp⟩, ⟨[], by simp⟩, h3, ws, h4, hC, hP, hD0.self, va_S.rf, ⟨tk_un_rf _ _ _ _, hXw⟩, h9⟩ hl (tk_args_ok 0 hA2) trivial
        · cases hrun
      · cases hrun
    | false =>
      rw [hb0] at hrun
      unfold tk_run0 at hrun
      dsimp only [cond] at hrun
      split at hrun
      · next xs hxs =>
        have key := tk_runC (mods := mods) hhk hXs hxt hXt hok B.exec B.bytes B.notSynchronized B.returns hml hins hF hck hkk hcall (Nat.le_refl _) (Nat.le_refl _) hH h3 (l1 := []) (r1 := []) hcut0 hxs hrun _ (List.mem_singleton.mpr rfl)
        exact key vals rads s.heap [] _ [] _ hH ⟨⟨[], by simp⟩, ⟨[], by simp⟩, h3, ws, h4, hC, hP, hD0.self, va_S.rf, ⟨tk_un_rf _ _ _ _, hXw⟩, h9⟩ hl (tk_args_ok 0 hA2) trivial
      · cases hrun
  · cases h
/-- a contract holds where more frames are granted -/
theorem tk_KS_up {K : tk_K} {d d' : Nat} (hd : d ≤ d') (h : tk_KS l D cl tbl xw xt MN P TY ro X ads tw d K) : tk_KS l D cl tbl xw xt MN P TY ro X ads tw d' K := by
  intro q hq
  obtain ⟨M, hM, hM21, hmet⟩ := h q hq
  refine ⟨M, hM, hM21, fun vals rads ws av sz a1 a2 a3 a4 a5 a6 => ?_⟩
  have := hmet vals rads ws av sz a1 a2 a3 a4 a5 a6
  unfold Met at this ⊢
  exact MetFree.respec this (fun _ _ z => z) hd (by show 40 * d ≤ 40 * d'; omega) (Nat.le_refl _) (Nat.le_refl _)
end TKLM
end MH25_5
section MH25_6
/-! ===== tk: small methods are run where they are called, the others by their contracts ===== -/
def tk_callI (inl : List Nat) (mods : List (Nat × Nat)) (TY : tk_TT) (fty : rk_F) (mci : List Nat) (P : List rk_M2) (fuel : Nat) (Ks : List tk_K) : Nat → tk_Ca
  | 0 => tk_tbl TY Ks
  | n + 1 => fun f as w rf fa => cond (inl.any (fun g => Nat.beq g f)) (tk_meth mods TY fty mci P fuel (tk_callI inl mods TY fty mci P fuel Ks n) f as w rf fa) (tk_tbl TY Ks f as w rf fa)
section TKLI
variable {l : Launch} {D : va_G} {cl : List vw_C} {tbl xw : List Jvm.Cond} {fty : rk_F} {cln : List String} {MN : List rk_N} {mci : List Nat} {P : List rk_M2} {xt : tk_XT} {TY : tk_TT} {ro : Nat → Nat → Int → Prop} {X : va_W → Prop} {ads tw : List Nat}
theorem tk_callI_ok (hXs : tk_xs TY X ads tw) (hxt : tk_xtok xt) (hok : rk_ok tbl xw cl fty cln MN mci P) (inl : List Nat) (mods : List (Nat × Nat)) (fuel : Nat) {Ks : List tk_K} {d : Nat} (hK : ∀ K ∈ Ks, tk_KS l D cl tbl xw xt MN P TY ro X ads tw d K) : ∀ n : Nat, tk_SC l D cl tbl xw xt MN P TY ro X ads tw (d + n) (tk_callI inl mods TY fty mci P fuel Ks n) := by
  intro n
  induction n with
  | zero => exact tk_tbl_ok hK
  | succ n ih =>
    intro f as w rf fa o h
    unfold tk_callI at h
    cases hb : inl.any (fun g => Nat.beq g f) with
    | true =>
      rw [hb] at h
      exact tk_meth_ok l D hXs hxt hok fuel ih f as w rf fa o h
    | false =>
      rw [hb] at h
      exact tk_tbl_ok (fun K hm => tk_KS_up (show d ≤ d + (n + 1) by omega) (hK K hm)) f as w rf fa o h
/-- a contract by its run -/
theorem tk_contract {hk : Nat → tk_S → Option (List tk_S)} (hhk : tk_hkok TY ro X ads tw hk) (hXs : tk_xs TY X ads tw) (hxt : tk_xtok xt) (hok : rk_ok tbl xw cl fty cln MN mci P) (inl : List Nat) (fuel n m : Nat) {Ks : List tk_K} {d D' : Nat} (hK : ∀ K ∈ Ks, tk_KS l D cl tbl xw xt MN P TY ro X ads tw d K) {K : tk_K} {Hs : List tk_Hd} (h : tk_methL hk TY fty mci P (tk_callI inl K.2.2.2.2.2.2 TY fty mci P fuel Ks n) fuel m K Hs = true) (hD : d + n + 1 = D') : tk_KS l D cl tbl xw xt MN P TY ro X ads tw D' K := by
  subst hD
  exact tk_methL_ok hhk hXs hxt hok (tk_callI_ok hXs hxt hok inl _ fuel hK n) h
end TKLI
end MH25_6
section MH25_7
/-! ===== the class: types by role ===== -/
def gc_ty : List tk_TY := [.inl (11, [(0, 0, 9), (1, (-9223372036854775808), 9223372036854775807), (1, (-9223372036854775808), 9223372036854775807), (2, 1, 0), (2, 3, 0), (2, 4, 0), (2, 5, 0), (2, 6, 0), (2, 9, 0), (2, 10, 0), (2, 12, 0), (2, 38, 0), (2, 64, 0), (0, 0, 3), (2, 91, 0), (2, 96, 0), (2, 208, 0), (2, 211, 0), (2, 214, 0), (0, 0, 1)]), .inr (.array .long, 4, (2, 2, 0)), .inr (.long, 60, (1, (-9223372036854775808), 9223372036854775807)), .inr (.int, 4, (0, 0, 3)), .inr (.int, 4, (0, (-1), 60)), .inr (.int, 20, (0, 0, 9)), .inl (8, [(2, 7, 0), (2, 8, 0), (0, 0, 900), (0, 0, 900), (0, 0, 900), (0, 0, 900), (0, 0, 4), (0, (-1), 22), (1, (-9223372036854775808), 9223372036854775807), (0, (-2147483648), 2147483647), (0, (-1), 7), (0, (-1), 900)]), .inr (.byte, 900, (0, (-128), 127)), .inr (.long, 23, (1, 1, 2147483647)), .inl (4, [(2, 6, 0), (0, (-2147483648), 2147483647)]), .inl (10, [(2, 6, 0), (2, 11, 0), (0, 0, 3)]), .inr (.int, 3, (0, 0, 29)), .inl (3, [(2, 13, 0), (2, 14, 0), (2, 15, 0), (2, 16, 0), (2, 17, 0), (2, 18, 0), (2, 23, 0), (2, 31, 0), (0, 0, 10), (0, 0, 1023), (0, 0, 20), (0, 1, 20), (0, 0, 20), (0, 0, 9999)]), .inr (.long, 10, (1, (-9223372036854775808), 9223372036854775807)), .inr (.int, 10, (0, 0, 1023)), .inr (.int, 10, (0, 0, 1023)), .inr (.int, 10, (0, 0, 255)), .inr (.int, 10, (0, (-2147483648), 2147483647)), .inl (2, [(2, 19, 0), (2, 20, 0), (2, 21, 0), (2, 22, 0), (0, (-2147483648), 2147483647), (0, 0, 1023)]), .inr (.int, 10, (0, (-2147483648), 2147483647)), .inr (.int, 10, (0, 0, 2147483647)), .inr (.int, 10, (0, (-2147483648), 2147483647)), .inr (.int, 200, (0, (-2147483648), 2147483647)), .inl (0, [(2, 24, 0), (2, 25, 0), (2, 26, 0), (2, 27, 0), (2, 28, 0), (2, 29, 0), (2, 30, 0), (0, 0, 8), (0, 0, 255), (0, 0, 255)]), .inr (.long, 8, (1, (-9223372036854775808), 9223372036854775807)), .inr (.int, 8, (0, (-2147483648), 2147483647)), .inr (.int, 8, (0, 0, 9)), .inr (.int, 8, (0, (-2147483648), 2147483647)), .inr (.int, 8, (0, (-2147483648), 2147483647)), .inr (.int, 8, (0, (-2147483648), 2147483647)), .inr (.int, 160, (0, 0, 9)), .inl (9, [(2, 32, 0), (2, 33, 0), (2, 34, 0), (2, 35, 0), (2, 36, 0), (2, 37, 0), (0, 0, 30), (0, 0, 1)]), .inr (.int, 30, (3, 32, 0)), .inr (.int, 30, (0, (-1), 22)), .inr (.int, 30, (3, 34, 0)), .inr (.int, 30, (0, (-2147483648), 2147483647)), .inr (.int, 30, (0, (-2147483648), 2147483647)), .inr (.int, 30, (0, 0, 30)), .inl (3, [(2, 39, 0), (2, 40, 0), (2, 41, 0), (2, 42, 0), (2, 43, 0), (2, 44, 0), (2, 49, 0), (2, 57, 0), (0, 0, 10), (0, 0, 1023), (0, 0, 20), (0, 1, 20), (0, 0, 20), (0, 0, 10019)]), .inr (.long, 10, (1, (-9223372036854775808), 9223372036854775807)), .inr (.int, 10, (0, 0, 1023)), .inr (.int, 10, (0, 0, 1023)), .inr (.int, 10, (0, 0, 255)), .inr (.int, 10, (0, (-2147483648), 2147483647)), .inl (2, [(2, 45, 0), (2, 46, 0), (2, 47, 0), (2, 48, 0), (0, (-2147483648), 2147483647), (0, 0, 1023)]), .inr (.int, 10, (0, (-2147483648), 2147483647)), .inr (.int, 10, (0, 0, 2147483647)), .inr (.int, 10, (0, (-2147483648), 2147483647)), .inr (.int, 200, (0, (-2147483648), 2147483647)), .inl (0, [(2, 50, 0), (2, 51, 0), (2, 52, 0), (2, 53, 0), (2, 54, 0), (2, 55, 0), (2, 56, 0), (0, 0, 8), (0, 0, 255), (0, 0, 255)]), .inr (.long, 8, (1, (-9223372036854775808), 9223372036854775807)), .inr (.int, 8, (0, (-2147483648), 2147483647)), .inr (.int, 8, (0, 0, 9)), .inr (.int, 8, (0, (-2147483648), 2147483647)), .inr (.int, 8, (0, (-2147483648), 2147483647)), .inr (.int, 8, (0, (-2147483648), 2147483647)), .inr (.int, 160, (0, 0, 9)), .inl (9, [(2, 58, 0), (2, 59, 0), (2, 60, 0), (2, 61, 0), (2, 62, 0), (2, 63, 0), (0, 0, 30), (0, 0, 1)]), .inr (.int, 30, (3, 58, 0)), .inr (.int, 30, (0, (-1), 22)), .inr (.int, 30, (3, 60, 0)), .inr (.int, 30, (0, (-2147483648), 2147483647)), .inr (.int, 30, (0, (-2147483648), 2147483647)), .inr (.int, 30, (0, 0, 30)), .inr (.object "GooseIce$Lake", 3, (2, 65, 0)), .inl (3, [(2, 66, 0), (2, 67, 0), (2, 68, 0), (2, 69, 0), (2, 70, 0), (2, 71, 0), (2, 76, 0), (2, 84, 0), (0, 0, 10), (0, 0, 1023), (0, 0, 20), (0, 1, 20), (0, 0, 20), (0, 0, 9999)]), .inr (.long, 10, (1, (-9223372036854775808), 9223372036854775807)), .inr (.int, 10, (0, 0, 1023)), .inr (.int, 10, (0, 0, 1023)), .inr (.int, 10, (0, 0, 255)), .inr (.int, 10, (0, 0, 0)), .inl (2, [(2, 72, 0), (2, 73, 0), (2, 74, 0), (2, 75, 0), (0, (-2147483648), 2147483647), (0, 0, 1023)]), .inr (.int, 10, (0, (-2147483648), 2147483647)), .inr (.int, 10, (0, 0, 2147483647)), .inr (.int, 10, (0, (-2147483648), 2147483647)), .inr (.int, 200, (0, (-2147483648), 2147483647)), .inl (0, [(2, 77, 0), (2, 78, 0), (2, 79, 0), (2, 80, 0), (2, 81, 0), (2, 82, 0), (2, 83, 0), (0, 0, 8), (0, 0, 255), (0, 0, 255)]), .inr (.long, 8, (1, (-9223372036854775808), 9223372036854775807)), .inr (.int, 8, (0, (-2147483648), 2147483647)), .inr (.int, 8, (0, 0, 9)), .inr (.int, 8, (0, (-2147483648), 2147483647)), .inr (.int, 8, (0, (-2147483648), 2147483647)), .inr (.int, 8, (0, (-2147483648), 2147483647)), .inr (.int, 160, (0, 0, 9)), .inl (9, [(2, 85, 0), (2, 86, 0), (2, 87, 0), (2, 88, 0), (2, 89, 0), (2, 90, 0), (0, 0, 30), (0, 0, 1)]), .inr (.int, 30, (3, 85, 0)), .inr (.int, 30, (0, (-1), 22)), .inr (.int, 30, (3, 87, 0)), .inr (.int, 30, (0, (-2147483648), 2147483647)), .inr (.int, 30, (0, (-2147483648), 2147483647)), .inr (.int, 30, (0, 0, 30)), .inl (6, [(2, 92, 0), (2, 93, 0), (2, 94, 0), (2, 95, 0), (0, 0, 10), (0, (-2147483648), 2147483647)]), .inr (.int, 10, (0, 0, 9)), .inr (.int, 11, (0, 0, 1023)), .inr (.int, 10, (0, (-2147483648), 2147483647)), .inr (.int, 1024, (0, (-2147483648), 2147483647)), .inl (7, [(2, 97, 0), (2, 202, 0), (2, 203, 0), (2, 204, 0), (2, 205, 0), (2, 206, 0), (2, 207, 0), (0, 0, 4), (0, 0, 1000000), (0, 0, 4), (0, 0, 12)]), .inr (.object "GooseIce$Lake", 4, (2, 98, 26)), .inl (3, [(2, 99, 0), (2, 100, 0), (2, 101, 0), (2, 102, 0), (2, 103, 0), (2, 104, 0), (2, 109, 0), (2, 117, 0), (0, 0, 10), (0, 0, 1023), (0, 0, 20), (0, 1, 20), (0, 0, 20), (0, 0, 10100)]), .inr (.long, 10, (1, (-9223372036854775808), 9223372036854775807)), .inr (.int, 10, (0, 0, 1023)), .inr (.int, 10, (0, 0, 1023)), .inr (.int, 10, (0, 0, 255)), .inr (.int, 10, (0, (-2147483648), 2147483647)), .inl (2, [(2, 105, 0), (2, 106, 0), (2, 107, 0), (2, 108, 0), (0, (-2147483648), 2147483647), (0, 0, 1023)]), .inr (.int, 10, (0, (-2147483648), 2147483647)), .inr (.int, 10, (0, 0, 2147483647)), .inr (.int, 10, (0, (-2147483648), 2147483647)), .inr (.int, 200, (0, (-2147483648), 2147483647)), .inl (0, [(2, 110, 0), (2, 111, 0), (2, 112, 0), (2, 113, 0), (2, 114, 0), (2, 115, 0), (2, 116, 0), (0, 0, 8), (0, 0, 255), (0, 0, 255)]), .inr (.long, 8, (1, (-9223372036854775808), 9223372036854775807)), .inr (.int, 8, (0, (-2147483648), 2147483647)), .inr (.int, 8, (0, 0, 9)), .inr (.int, 8, (0, (-2147483648), 2147483647)), .inr (.int, 8, (0, (-2147483648), 2147483647)), .inr (.int, 8, (0, (-2147483648), 2147483647)), .inr (.int, 160, (0, 0, 9)), .inl (9, [(2, 118, 0), (2, 119, 0), (2, 120, 0), (2, 121, 0), (2, 122, 0), (2, 123, 0), (0, 0, 0), (0, 0, 0)]), .inr (.int, 30, (0, 0, 0)), .inr (.int, 30, (0, 0, 0)), .inr (.int, 30, (0, 0, 0)), .inr (.int, 30, (0, 0, 0)), .inr (.int, 30, (0, 0, 0)), .inr (.int, 30, (0, 0, 0)), .inl (3, [(2, 125, 0), (2, 126, 0), (2, 127, 0), (2, 128, 0), (2, 129, 0), (2, 130, 0), (2, 135, 0), (2, 143, 0), (0, 0, 10), (0, 0, 1023), (0, 0, 20), (0, 1, 20), (0, 0, 20), (0, 0, 10100)]), .inr (.long, 10, (1, (-9223372036854775808), 9223372036854775807)), .inr (.int, 10, (0, 0, 1023)), .inr (.int, 10, (0, 0, 1023)), .inr (.int, 10, (0, 0, 255)), .inr (.int, 10, (0, (-2147483648), 2147483647)), .inl (2, [(2, 131, 0), (2, 132, 0), (2, 133, 0), (2, 134, 0), (0, (-2147483648), 2147483647), (0, 0, 1023)]), .inr (.int, 10, (0, (-2147483648), 2147483647)), .inr (.int, 10, (0, 0, 2147483647)), .inr (.int, 10, (0, (-2147483648), 2147483647)), .inr (.int, 200, (0, (-2147483648), 2147483647)), .inl (0, [(2, 136, 0), (2, 137, 0), (2, 138, 0), (2, 139, 0), (2, 140, 0), (2, 141, 0), (2, 142, 0), (0, 0, 8), (0, 0, 255), (0, 0, 255)]), .inr (.long, 8, (1, (-9223372036854775808), 9223372036854775807)), .inr (.int, 8, (0, (-2147483648), 2147483647)), .inr (.int, 8, (0, 0, 9)), .inr (.int, 8, (0, (-2147483648), 2147483647)), .inr (.int, 8, (0, (-2147483648), 2147483647)), .inr (.int, 8, (0, (-2147483648), 2147483647)), .inr (.int, 160, (0, 0, 9)), .inl (9, [(2, 144, 0), (2, 145, 0), (2, 146, 0), (2, 147, 0), (2, 148, 0), (2, 149, 0), (0, 0, 0), (0, 0, 0)]), .inr (.int, 30, (0, 0, 0)), .inr (.int, 30, (0, 0, 0)), .inr (.int, 30, (0, 0, 0)), .inr (.int, 30, (0, 0, 0)), .inr (.int, 30, (0, 0, 0)), .inr (.int, 30, (0, 0, 0)), .inl (3, [(2, 151, 0), (2, 152, 0), (2, 153, 0), (2, 154, 0), (2, 155, 0), (2, 156, 0), (2, 161, 0), (2, 169, 0), (0, 0, 10), (0, 0, 1023), (0, 0, 20), (0, 1, 20), (0, 0, 20), (0, 0, 10100)]), .inr (.long, 10, (1, (-9223372036854775808), 9223372036854775807)), .inr (.int, 10, (0, 0, 1023)), .inr (.int, 10, (0, 0, 1023)), .inr (.int, 10, (0, 0, 255)), .inr (.int, 10, (0, (-2147483648), 2147483647)), .inl (2, [(2, 157, 0), (2, 158, 0), (2, 159, 0), (2, 160, 0), (0, (-2147483648), 2147483647), (0, 0, 1023)]), .inr (.int, 10, (0, (-2147483648), 2147483647)), .inr (.int, 10, (0, 0, 2147483647)), .inr (.int, 10, (0, (-2147483648), 2147483647)), .inr (.int, 200, (0, (-2147483648), 2147483647)), .inl (0, [(2, 162, 0), (2, 163, 0), (2, 164, 0), (2, 165, 0), (2, 166, 0), (2, 167, 0), (2, 168, 0), (0, 0, 8), (0, 0, 255), (0, 0, 255)]), .inr (.long, 8, (1, (-9223372036854775808), 9223372036854775807)), .inr (.int, 8, (0, (-2147483648), 2147483647)), .inr (.int, 8, (0, 0, 9)), .inr (.int, 8, (0, (-2147483648), 2147483647)), .inr (.int, 8, (0, (-2147483648), 2147483647)), .inr (.int, 8, (0, (-2147483648), 2147483647)), .inr (.int, 160, (0, 0, 9)), .inl (9, [(2, 170, 0), (2, 171, 0), (2, 172, 0), (2, 173, 0), (2, 174, 0), (2, 175, 0), (0, 0, 0), (0, 0, 0)]), .inr (.int, 30, (0, 0, 0)), .inr (.int, 30, (0, 0, 0)), .inr (.int, 30, (0, 0, 0)), .inr (.int, 30, (0, 0, 0)), .inr (.int, 30, (0, 0, 0)), .inr (.int, 30, (0, 0, 0)), .inl (3, [(2, 177, 0), (2, 178, 0), (2, 179, 0), (2, 180, 0), (2, 181, 0), (2, 182, 0), (2, 187, 0), (2, 195, 0), (0, 0, 10), (0, 0, 1023), (0, 0, 20), (0, 1, 20), (0, 0, 20), (0, 0, 10100)]), .inr (.long, 10, (1, (-9223372036854775808), 9223372036854775807)), .inr (.int, 10, (0, 0, 1023)), .inr (.int, 10, (0, 0, 1023)), .inr (.int, 10, (0, 0, 255)), .inr (.int, 10, (0, (-2147483648), 2147483647)), .inl (2, [(2, 183, 0), (2, 184, 0), (2, 185, 0), (2, 186, 0), (0, (-2147483648), 2147483647), (0, 0, 1023)]), .inr (.int, 10, (0, (-2147483648), 2147483647)), .inr (.int, 10, (0, 0, 2147483647)), .inr (.int, 10, (0, (-2147483648), 2147483647)), .inr (.int, 200, (0, (-2147483648), 2147483647)), .inl (0, [(2, 188, 0), (2, 189, 0), (2, 190, 0), (2, 191, 0), (2, 192, 0), (2, 193, 0), (2, 194, 0), (0, 0, 8), (0, 0, 255), (0, 0, 255)]), .inr (.long, 8, (1, (-9223372036854775808), 9223372036854775807)), .inr (.int, 8, (0, (-2147483648), 2147483647)), .inr (.int, 8, (0, 0, 9)), .inr (.int, 8, (0, (-2147483648), 2147483647)), .inr (.int, 8, (0, (-2147483648), 2147483647)), .inr (.int, 8, (0, (-2147483648), 2147483647)), .inr (.int, 160, (0, 0, 9)), .inl (9, [(2, 196, 0), (2, 197, 0), (2, 198, 0), (2, 199, 0), (2, 200, 0), (2, 201, 0), (0, 0, 0), (0, 0, 0)]), .inr (.int, 30, (0, 0, 0)), .inr (.int, 30, (0, 0, 0)), .inr (.int, 30, (0, 0, 0)), .inr (.int, 30, (0, 0, 0)), .inr (.int, 30, (0, 0, 0)), .inr (.int, 30, (0, 0, 0)), .inr (.int, 4, (0, 0, 7)), .inr (.int, 4, (0, 0, 7)), .inr (.int, 4, (0, 0, 6)), .inr (.int, 4, (0, 0, 7)), .inr (.int, 4, (0, 0, 6)), .inr (.int, 12, (0, 0, 9)), .inl (1, [(2, 209, 0), (2, 210, 0), (0, (-2147483648), 2147483647)]), .inr (.long, 21, (1, (-9223372036854775808), 9223372036854775807)), .inr (.long, 21, (1, (-9223372036854775808), 9223372036854775807)), .inl (5, [(2, 91, 0), (2, 212, 0), (2, 213, 0), (0, 0, 3), (0, 0, 65535), (0, 0, 1), (0, (-2147483648), 2147483647), (0, (-2147483648), 2147483647), (0, (-2147483648), 2147483647), (0, (-2147483648), 2147483647), (0, 0, 1)]), .inr (.int, 3, (0, 0, 29)), .inr (.int, 3, (0, (-2147483648), 2147483647)), .inr (.int, 5, (0, (-2147483648), 2147483647))]
def gc_ob : List Bool := [true, false, false, false, false, false, true, false, false, true, true, false, true, false, false, false, false, false, true, false, false, false, false, true, false, false, false, false, false, false, false, true, false, false, false, false, false, false, true, false, false, false, false, false, true, false, false, false, false, true, false, false, false, false, false, false, false, true, false, false, false, false, false, false, false, true, false, false, false, false, false, true, false, false, false, false, true, false, false, false, false, false, false, false, true, false, false, false, false, false, false, true, false, false, false, false, true, false, true, false, false, false, false, false, true, false, false, false, false, true, false, false, false, false, false, false, false, true, false, false, false, false, false, false, true, false, false, false, false, false, true, false, false, false, false, true, false, false, false, false, false, false, false, true, false, false, false, false, false, false, true, false, false, false, false, false, true, false, false, false, false, true, false, false, false, false, false, false, false, true, false, false, false, false, false, false, true, false, false, false, false, false, true, false, false, false, false, true, false, false, false, false, false, false, false, true, false, false, false, false, false, false, false, false, false, false, false, false, true, false, false, true, false, false, false]
def gc_id : Nat → Nat := fun i => i
def gc_rgl : List (Nat × Int × Int) := [(32, 0, 22), (34, (-2147483648), 2147483647), (58, 0, 22), (60, (-2147483648), 2147483647), (85, 0, 22), (87, (-2147483648), 2147483647)]
def gc_reg : Nat → Nat → tk_I := fun t _ => match gc_rgl.find? (fun q => Nat.beq q.1 t) with
  | some q => q.2
  | none => (0, 0)
def gc_rgn : Nat → Option (Nat → Nat) := fun t => match gc_ob[t]? with
  | some true => some gc_id
  | _ => none
def gc_rl : List (Nat × Nat × Nat) := [(31, 32, 34), (57, 58, 60), (84, 85, 87)]
def gc_FX : List (Nat × Nat) := [(31, 0), (31, 2), (31, 6), (32, 0), (34, 0), (57, 0), (57, 2), (57, 6), (58, 0), (60, 0), (84, 0), (84, 2), (84, 6), (85, 0), (87, 0)]
def gc_dr : Nat × Nat × Nat := (57, 58, 60)
end MH25_7
