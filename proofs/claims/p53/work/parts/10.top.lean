theorem rk_lgsl : ∀ (av : List Value), (lg_sl av).length = (av.map fun v => v.category).sum
  | [] => rfl
  | v :: av => by
    have e : lg_sl (v :: av) = (if v.category = 2 then [Slot.val v, .second] else [.val v]) ++ lg_sl av := rfl
    rw [e, List.length_append, rk_lgsl av]
    rcases lv_cat v with z | z <;> simp [z]
section RKT
variable {p : Program} {l : Launch} {e : Env} {R : Room} {s : State} {m : MethodId} {args : Array Value} {below : List Frame} {meth : Method} {c : Code} {Q : State → Prop} {cc : ByteArray} {D : va_G} {cl : List vw_C} {Ad : Nat → Prop} {nL : Nat} {vals0 : List Value} {ads0 : List Nat}
variable {xt : rk_XT} {tbl xw : List Jvm.Cond} {fty : rk_F} {cln : List String} {MN : List rk_N} {mci : List Nat} {P : List rk_M2}
theorem rk_each_ok {K : rk_K} {a : rk_V} {pc : Nat} {lo : List (Nat × rk_V)} {sk : List rk_V} {env : List rk_T} {hp : List rk_H} {nc ns : Nat} {vals : List Value} {ads : List Nat} {x : Int32} (hE : rk_E env vals) (ga : rk_g vals ads a (.int x)) : ∀ (n : Nat) (v : Int), v ≤ x.toInt → x.toInt < v + n → ∃ env', rk_E env' vals ∧ (pc, (lo, sk, env', hp, nc, ns)) ∈ rk_each a pc lo sk env hp nc ns v n := by
  intro n
  induction n with
  | zero => intro v h1 h2; omega
  | succ n ih =>
    intro v h1 h2
    by_cases e : x.toInt = v
    · obtain ⟨e2, q1, q2⟩ := rk_cut_ok (lo := v) (hi := v) hE ga (by omega) (by omega)
      exact ⟨e2, q2, List.mem_append_left _ (rk_opt_mem q1 _ lo sk hp nc ns)⟩
    · obtain ⟨e2, q1, q2⟩ := ih (v + 1) (by omega) (by omega)
      exact ⟨e2, q1, List.mem_append_right _ q2⟩
theorem rk_split_ok {K : rk_K} {pc : Nat} {ins : Instr} {st : rk_S} {res : List (Nat × rk_S)} (h : rk_split pc ins st = some res) (kk : ∀ q ∈ res, rk_W K s D cl Ad nL vals0 ads0 q.1 q.2) : rk_W K s D cl Ad nL vals0 ads0 pc st := by
  obtain ⟨lo, sk, env, hp, nc, ns⟩ := st
  intro vals ws H locs ls stk lc hG hl hL hS
  dsimp only at hG hL hS ⊢
  unfold rk_split at h
  split at h
  · next a ha =>
    split at h
    · next I hI =>
      split at h
      · next hc =>
        cases h
        have hin : ∃ k : Nat, sk[k]? = some a := by
          unfold rk_which at ha
          split at ha
          all_goals first
            | exact ⟨_, ha⟩
            | cases ha
        obtain ⟨k, hk⟩ := hin
        obtain ⟨v, hv, hg⟩ := hS.get hk
        obtain ⟨x, rfl, h1, h2⟩ := rk_iv_ok hG.1 hg hI
        obtain ⟨e2, q1, q2⟩ := rk_each_ok (K := K) (pc := pc) (lo := lo) (sk := sk) (hp := hp) (nc := nc) (ns := ns) hG.1 hg (I.2 - I.1 + 1).toNat I.1 h1 (by omega)
        exact kk _ q2 vals ws H locs ls stk lc (hG.env0 q1) hl hL hS
      · cases h
    · cases h
  · cases h
theorem rk_pre0_ok {K : rk_K} {pc : Nat} {ins : Instr} {st : rk_S} {res : List (Nat × rk_S)} (h : rk_pre0 pc ins st = some res) (kk : ∀ q ∈ res, rk_W K s D cl Ad nL vals0 ads0 q.1 q.2) : rk_W K s D cl Ad nL vals0 ads0 pc st := by
  obtain ⟨lo, sk, env, hp, nc, ns⟩ := st
  intro vals ws H locs ls stk lc hG hl hL hS
  dsimp only at hG hL hS ⊢
  unfold rk_pre0 at h
  split at h
  · dsimp only at h
    split at h
    · next y k r =>
      obtain ⟨v1, k1, rfl, g1, hS1⟩ := hS.cons
      obtain ⟨v2, k2, rfl, ⟨x, hx, rfl⟩, hS2⟩ := hS1.cons
      split at h
      · next I hI =>
        obtain ⟨x', e', h1, h2⟩ := rk_iv_ok hG.1 (show rk_g vals (ws.map Prod.fst) (.inr (.inr (.inl k))) (.int x) from hx) hI
        cases e'
        split at h
        · next e =>
          cases h
          refine kk _ (List.mem_singleton.mpr rfl) vals ws H locs ls _ lc hG hl hL ⟨g1, ?_, hS2⟩
          show Value.long x.toInt64 = Value.long (Int32.ofInt I.1).toInt64
          rw [show I.1 = x.toInt by omega, Int32.ofInt_toInt]
        · split at h
          · cases h
            obtain ⟨e2, q1, q2⟩ := rk_each_ok (K := K) (pc := pc) (lo := lo) (sk := .inl (.long y) :: .inr (.inr (.inr k)) :: r) (hp := hp) (nc := nc) (ns := ns) hG.1 (show rk_g vals (ws.map Prod.fst) (.inr (.inr (.inl k))) (.int x) from hx) (I.2 - I.1 + 1).toNat I.1 h1 (by omega)
            exact kk _ q2 vals ws H locs ls _ lc (hG.env0 q1) hl hL hS
          · cases h
      · cases h
    · cases h
  · cases h
theorem rk_step_ok (hxt : rk_xtok xt) (hXt : xt vals0 Ad s s.heap) (hok : rk_ok tbl xw cl fty cln MN mci P) (hx : p.tables.exec = Jvm.exec) (hb : c.code = cc) {M : rk_M2} (hml : c.maxLocals = M.2.1) {own : String} (hF : rk_Fr s m args meth D cl Ad tbl xw fty cln own M.2.2.1 M.2.2.2.1) (hck : ∀ r ∈ M.2.2.1, rk_cok tbl xw MN P own r) (hkk : ∀ r ∈ M.2.2.1, rk_kok tbl own r) {d : Nat} {call : Nat → List rk_V → List rk_T → List rk_H → Option rk_O} (hcall : rk_SC l D cl tbl xw xt MN P d call) {ext : rk_Ext} (hext : ∀ (pc : Nat) (ins : Instr) (len : Nat) (st : rk_S) (res : List (Nat × rk_S)), decode cc pc = .ok (ins, len) → rk_len ins len = true → ext pc ins st = some res → (∀ q ∈ res, q.2.2.2.2.2.1 ≤ R.cells ∧ q.2.2.2.2.2.2 ≤ R.slots) → (∀ q ∈ res, rk_W (rk_KW p l e R s m args below meth c Q) s D cl Ad M.2.1 vals0 ads0 q.1 q.2) → rk_W (rk_KW p l e R s m args below meth c Q) s D cl Ad M.2.1 vals0 ads0 pc st) (hfr : d + 1 ≤ R.frames) (hlo : 40 * (d + 1) ≤ R.locals) {pc : Nat} {ins : Instr} {len : Nat} {st : rk_S} {res : List (Nat × rk_S)} (hdg : decode cc pc = .ok (ins, len)) (hlen : rk_len ins len = true) (h : rk_step fty cln mci call ext M pc ins st = some res) (hroom : ∀ q ∈ res, q.2.2.2.2.2.1 ≤ R.cells ∧ q.2.2.2.2.2.2 ≤ R.slots) (kk : ∀ q ∈ res, rk_W (rk_KW p l e R s m args below meth c Q) s D cl Ad M.2.1 vals0 ads0 q.1 q.2) : rk_W (rk_KW p l e R s m args below meth c Q) s D cl Ad M.2.1 vals0 ads0 pc st := by
  unfold rk_step at h
  split at h
  · next r hr => cases h; exact hext pc ins len st _ hdg hlen hr hroom kk
  split at h
  · next r hr => cases h; exact rk_pre0_ok hr kk
  split at h
  · next r hr => cases h; exact rk_pure_ok hx hb hdg hlen hr kk
  · split at h
    · next r hr => cases h; exact rk_pure2_ok hx hb hdg hlen hr kk
    · split at h
      · next r hr => cases h; exact rk_heap_ok hx hb hF hdg hlen hr hroom kk
      · split at h
        · next r hr => cases h; exact rk_call_ok hxt hXt hok hx hb hml hF hck hcall hfr hlo hdg hlen hr hroom kk
        · split at h
          · next r hr => cases h; exact rk_copy_ok hx hb hml hF hkk (by omega) (by omega) hdg hlen hr kk
          · split at h
            · next r hr => cases h; exact rk_split_ok hr kk
            · exact rk_math_ok hx hb hml hF (by omega) (by omega) hdg hlen h hroom kk
set_option maxHeartbeats 4000000 in
theorem rk_loop_ok (hxt : rk_xtok xt) (hXt : xt vals0 Ad s s.heap) (hok : rk_ok tbl xw cl fty cln MN mci P) (hx : p.tables.exec = Jvm.exec) (hb : c.code = cc) {M : rk_M2} (hml : c.maxLocals = M.2.1) (hins : ∀ r ∈ M.1, decode cc r.1 = .ok r.2) {own : String} (hF : rk_Fr s m args meth D cl Ad tbl xw fty cln own M.2.2.1 M.2.2.2.1) (hck : ∀ r ∈ M.2.2.1, rk_cok tbl xw MN P own r) (hkk : ∀ r ∈ M.2.2.1, rk_kok tbl own r) {d : Nat} {call : Nat → List rk_V → List rk_T → List rk_H → Option rk_O} (hcall : rk_SC l D cl tbl xw xt MN P d call) {ext : rk_Ext} (hext : ∀ (pc : Nat) (ins : Instr) (len : Nat) (st : rk_S) (res : List (Nat × rk_S)), decode cc pc = .ok (ins, len) → rk_len ins len = true → ext pc ins st = some res → (∀ q ∈ res, q.2.2.2.2.2.1 ≤ R.cells ∧ q.2.2.2.2.2.2 ≤ R.slots) → (∀ q ∈ res, rk_W (rk_KW p l e R s m args below meth c Q) s D cl Ad M.2.1 vals0 ads0 q.1 q.2) → rk_W (rk_KW p l e R s m args below meth c Q) s D cl Ad M.2.1 vals0 ads0 pc st) (hfr : d + 1 ≤ R.frames) (hlo : 40 * (d + 1) ≤ R.locals) {XS : List rk_X}
    (hend : ∀ (pc : Nat) (ins : Instr) (len : Nat) (st : rk_S) (x : rk_X), decode cc pc = .ok (ins, len) → rk_len ins len = true → rk_end M.2.2.2.2.1 ins st = some (some x) → x ∈ XS → st.2.2.2.2.1 ≤ R.cells → st.2.2.2.2.2 ≤ R.slots → rk_W (rk_KW p l e R s m args below meth c Q) s D cl Ad M.2.1 vals0 ads0 pc st) :
    ∀ (n : Nat) (q : Nat × rk_S) (o : rk_O), rk_loop fty cln mci call ext M n q = some o → (∀ x ∈ o.2.2, x ∈ XS) → o.1 ≤ R.cells → o.2.1 ≤ R.slots → rk_W (rk_KW p l e R s m args below meth c Q) s D cl Ad M.2.1 vals0 ads0 q.1 q.2 := by
  intro n
  induction n with
  | zero => intro q o h; cases h
  | succ n ih =>
    intro q o h hXS hmc hms
    unfold rk_loop at h
    split at h
    · cases h
    · next il hft =>
      have hdg := hins _ (rk_fetch_mem hft)
      split at h
      · next hlen =>
        split at h
        · next x hx1 =>
          cases h
          exact hend q.1 il.1 il.2 q.2 x hdg hlen hx1 (hXS _ (List.mem_singleton.mpr rfl)) hmc hms
        · cases h
        · split at h
          · next succ hsucc =>
            split at h
            · next o1 ho1 =>
              cases h
              have hcb := rk_comb_ok ho1
              have hm1 : o1.1 ≤ R.cells := Nat.le_trans (Nat.le_max_right _ _) hmc
              have hm2 : o1.2.1 ≤ R.slots := Nat.le_trans (Nat.le_max_right _ _) hms
              refine rk_step_ok hxt hXt hok hx hb hml hF hck hkk hcall hext hfr hlo hdg hlen hsucc (fun z hz => ?_) (fun z hz => ?_)
              · obtain ⟨o2, q1, q2, q3, q4⟩ := hcb z hz
                have := rk_loop_ge q1
                exact ⟨Nat.le_trans this.1 (Nat.le_trans q2 hm1), Nat.le_trans this.2 (Nat.le_trans q3 hm2)⟩
              · obtain ⟨o2, q1, q2, q3, q4⟩ := hcb z hz
                exact ih z o2 q1 (fun x hx => hXS _ (q4 x hx)) (Nat.le_trans q2 hm1) (Nat.le_trans q3 hm2)
            · cases h
          · cases h
      · cases h
set_option maxHeartbeats 4000000 in
/-- a method's end, by its contract -/
theorem rk_end_ok (hx : p.tables.exec = Jvm.exec) (hb : c.code = cc) (hlocks : meth.locks = false) {ret : Option FieldType} (hr : meth.sig.returnType = ret) {XS : List rk_X} {pc : Nat} {ins : Instr} {len : Nat} {st : rk_S} {x : rk_X} (hdg : decode cc pc = .ok (ins, len)) (hlen : rk_len ins len = true) (h : rk_end ret ins st = some (some x)) (hXS : x ∈ XS) (hmc : st.2.2.2.2.1 ≤ R.cells) (hms : st.2.2.2.2.2 ≤ R.slots) : rk_W (rk_KW p l e R s m args below meth c (MQ below (rk_Post D cl XS vals0 ads0 Ad) args s R.cells R.slots Ad)) s D cl Ad nL vals0 ads0 pc st := by
  obtain ⟨lo, sk, env, hp, nc, ns⟩ := st
  unfold rk_end at h
  split at h
  · split at h
    · next hsk =>
      cases h
      simp [rk_len] at hlen; subst hlen
      intro vals ws H locs ls stk lc hG hl hL hS
      dsimp only at hsk hG hL hS hmc hms ⊢
      subst hsk
      have hnil := hS.nil
      subst hnil
      refine W.widen (k := R.cells) (n := R.slots) hmc hms ?_
      exact W.vret hx hb hr (fun t ht hW => ⟨⟨_, hXS, vals, ws, hG.2.2.2.2.2.1, hG.2.2.2.2.2.2, hG.1, hG.2.1.mono (fun _ _ h => h.moved hW.alike), by rw [ht]; exact hG.2.2.1, hG.2.2.2.1, rfl⟩, hG.2.2.2.2.1.F ht⟩) hG.2.2.2.2.1.2.2 hdg
    · cases h
  · split at h
    · next a hsk =>
      split at h
      · next hro =>
        cases h
        simp [rk_len] at hlen; subst hlen
        intro vals ws H locs ls stk lc hG hl hL hS
        dsimp only at hsk hG hL hS hmc hms hro ⊢
        subst hsk
        obtain ⟨v, k, rfl, hg, hSn⟩ := hS.cons; clear hS; have hS := hSn; clear hSn
        have hnil := hS.nil
        subst hnil
        refine W.widen (k := R.cells) (n := R.slots) hmc hms ?_
        have hpost : ∀ t : State, t.heap = H → s.WarmedH t.vm → rk_Post D cl XS vals0 ads0 Ad args s (.returned (some v)) t := fun t ht hW => ⟨⟨_, hXS, vals, ws, hG.2.2.2.2.2.1, hG.2.2.2.2.2.2, hG.1, hG.2.1.mono (fun _ _ h => h.moved hW.alike), by rw [ht]; exact hG.2.2.1, hG.2.2.2.1, v, hg, rfl⟩, hG.2.2.2.2.1.F ht⟩
        obtain ⟨hro, hnl⟩ := hro
        unfold rk_rok at hro
        split at hro
        · obtain ⟨I, hI⟩ := Option.isSome_iff_exists.mp hro
          obtain ⟨x, rfl, -, -⟩ := rk_iv_ok hG.1 hg hI
          exact W.iret hx hb hr hpost hG.2.2.2.2.1.2.2 hdg
        · have hfit := rk_fit_ok hG.1 hg hro
          unfold rk_fit at hro
          dsimp only at hro
          split at hro
          · next I hI =>
            obtain ⟨x, rfl, -, -⟩ := rk_iv_ok hG.1 hg hI
            exact W.zret (ty := .boolean) hx hb hr hfit.1 hpost hG.2.2.2.2.1.2.2 hdg
          · cases hro
        · exact absurd rfl hnl
        · cases hro
      · cases h
    · cases h
  · split at h
    · next a hsk =>
      split at h
      · next hro =>
        cases h
        simp [rk_len] at hlen; subst hlen
        intro vals ws H locs ls stk lc hG hl hL hS
        dsimp only at hsk hG hL hS hmc hms hro ⊢
        subst hsk
        obtain ⟨v, k, rfl, hg, hSn⟩ := hS.cons; clear hS; have hS := hSn; clear hSn
        have hnil := hS.nil
        subst hnil
        refine W.widen (k := R.cells) (n := R.slots) hmc hms ?_
        have hpost : ∀ t : State, t.heap = H → s.WarmedH t.vm → rk_Post D cl XS vals0 ads0 Ad args s (.returned (some v)) t := fun t ht hW => ⟨⟨_, hXS, vals, ws, hG.2.2.2.2.2.1, hG.2.2.2.2.2.2, hG.1, hG.2.1.mono (fun _ _ h => h.moved hW.alike), by rw [ht]; exact hG.2.2.1, hG.2.2.2.1, v, hg, rfl⟩, hG.2.2.2.2.1.F ht⟩
        obtain ⟨hro, hnl⟩ := hro
        rw [hnl] at hro
        obtain ⟨x, rfl⟩ := rk_isL_ok hG.1 hg hro
        exact W.lret hx hb (by rw [hr]; exact hnl) hpost hG.2.2.2.2.1.2.2 hdg
      · cases h
    · cases h
  · cases h
theorem rk_run_ok (l : Launch) (D : va_G) (hxt : rk_xtok xt) (hok : rk_ok tbl xw cl fty cln MN mci P) {sum : Nat → Nat → List rk_V → List rk_T → List rk_H → Option rk_O} (hsum : ∀ d : Nat, rk_SC l D cl tbl xw xt MN P (d + 1) (sum d)) (fuel : Nat) : ∀ d : Nat, rk_SC l D cl tbl xw xt MN P d (rk_run P fty cln mci sum fuel d) := by
  intro d
  induction d with
  | zero => intro f as env hp o h; cases h
  | succ d ih =>
    intro f as env hp o h q hq
    unfold rk_run at h
    split at h
    · next o1 ho1 =>
      cases h
      exact hsum d f as env hp o ho1 q hq
    split at h
    · next M hM =>
      split at h
      · next hc =>
        refine ⟨M, hM, hc.1, fun vals ws av sz hE hA2 => ?_⟩
        obtain ⟨hgw, hxo, hcl, hac, hlenM, hmok, hmci⟩ := id hok
        obtain ⟨m1, m2, m3, m4, m5, m6, m7, m8, m9⟩ := hmok f q M hq hM
        refine Met.ofW (cc := q.2.2) (maxL := M.2.1) (ret := M.2.2.2.2.1) m1 rfl ?_
        intro p e s m args below meth c s₁ B hml hv
        obtain ⟨rfl, hsz, hP, hK, hD0, hC, hxw, hXt⟩ := hv
        have hts0 := atoms_spec (ws := Jvm.Cond.code q.2.1 q.2.2 M.2.1 M.2.2.2.2.1 :: tbl) B.pre
        have hts : ∀ w ∈ tbl, w.before av.toArray s = true := fun w hw => hts0 w (List.mem_cons_of_mem _ hw)
        have hown : s.vm.findClass q.1 = some m.cls := by rw [← m2]; exact findClass_of_methodNamed B.named
        have hnm : meth.name = q.2.1.name := (name_of_methodNamed B.named B.method).1
        subst hsz
        have hF : rk_Fr s m av.toArray meth D cl (va_A ws s.heap.size) tbl xw fty cln q.1 M.2.2.1 M.2.2.2.1 := ⟨hts, hxw, hown, hK, fun z hz => Or.inr hz, hcl, fun r hr => (m7 r hr).1, fun hz => by rw [hnm]; exact m8 hz, hac, m9⟩
        have key := rk_loop_ok (l := l) (p := p) (e := e) (R := (headSpec (Jvm.Cond.code q.2.1 q.2.2 M.2.1 M.2.2.2.2.1 :: tbl) { frames := d + 1, cells := o.1, slots := o.2.1, locals := 40 * (d + 1) }).room) (below := below) (vals0 := vals) (ads0 := ws.map Prod.fst) hxt hXt hok B.exec B.bytes hml m6 hF (fun r hr => (m7 r hr).2.1) (fun r hr => (m7 r hr).2.2) (rk_wrap_ok hxt ih) (ext := fun _ _ _ => none) (fun _ _ _ _ _ _ _ z => by cases z) (Nat.le_refl _) (Nat.le_refl _) (XS := o.2.2) (fun pc ins len st x a1 a2 a3 a4 a5 a6 => rk_end_ok B.exec B.bytes B.notSynchronized B.returns a1 a2 a3 a4 a5 a6) fuel _ o h (fun x hx => hx) (Nat.le_refl _) (Nat.le_refl _)
        have hlen : (lg_sl av).length ≤ M.2.1 := by
          rw [rk_lgsl, ← rk_sum_ok hE hA2]
          exact hc.2
        have hl := lv_entry av (n := M.2.1) hlen
        rw [lg_entry_eq]
        exact key vals ws s.heap [] _ [] _ ⟨hE, hC, hP, hD0.self, va_S.rf, ⟨[], by simp⟩, ⟨[], by simp⟩⟩ hl (rk_args_ok hE 0 hA2) trivial
      · cases h
    · cases h
end RKT
