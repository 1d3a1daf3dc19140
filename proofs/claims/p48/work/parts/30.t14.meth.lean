/-! ===== tk: a method without cuts, by its run ===== -/
theorem tk_go1_l {fn : Nat → Instr → Option tk_Fn} {ret : Option FieldType} {ml : List (Nat × Instr × Nat)} {q : Nat × tk_S} {x : tk_X} (h : tk_go1 fn ret ml q = some (.inl x)) : ∃ ins len, (q.1, ins, len) ∈ ml ∧ rk_len ins len = true ∧ tk_end ret ins q.2 = some (some x) := by
  unfold tk_go1 at h
  split at h
  · next pc ins len ha =>
    obtain ⟨h1, h2⟩ := tk_at_ok ha
    split at h
    · next hl =>
      split at h
      · next y hy => cases h; exact ⟨ins, len, by rw [← h2]; exact h1, hl, hy⟩
      · cases h
      · split at h
        · split at h
          · cases h
          · cases h
        · cases h
    · cases h
  · cases h
theorem tk_go1_r {fn : Nat → Instr → Option tk_Fn} {ret : Option FieldType} {ml : List (Nat × Instr × Nat)} {q : Nat × tk_S} {l : List (Nat × tk_S)} (h : tk_go1 fn ret ml q = some (.inr l)) : ∃ ins len F, (q.1, ins, len) ∈ ml ∧ rk_len ins len = true ∧ fn q.1 ins = some F ∧ F q.2 = some l := by
  unfold tk_go1 at h
  split at h
  · next pc ins len ha =>
    obtain ⟨h1, h2⟩ := tk_at_ok ha
    dsimp only at h2
    subst h2
    split at h
    · next hl =>
      split at h
      · cases h
      · cases h
      · split at h
        · next F hF =>
          split at h
          · next l2 hl2 => cases h; exact ⟨ins, len, F, h1, hl, hF, hl2⟩
          · cases h
        · cases h
    · cases h
  · cases h
section TKM
variable {p : Program} {l : Launch} {e : Env} {R : Room} {s : State} {m : MethodId} {args : Array Value} {below : List Frame} {meth : Method} {c : Code} {cc : ByteArray} {D : va_G} {cl : List vw_C} {Ad : Nat → Prop} {vals0 : List Int} {rads0 : List Nat}
variable {mods : List (Nat × Nat)} {ws0 : va_W} {tbl xw : List Jvm.Cond} {fty : rk_F} {cln : List String} {MN : List rk_N} {mci : List Nat} {P : List rk_M2} {own : String} {xt : tk_XT} {TY : tk_TT} {ro : Nat → Nat → Int → Prop} {X : va_W → Prop} {ads tw : List Nat}
/-- a run's states are sound: cuts by what is known of them -/
theorem tk_runW (hXs : tk_xs TY X ads tw) (hxt : tk_xtok xt) (hXt : xt Ad s s.heap) (hok : rk_ok tbl xw cl fty cln MN mci P) (hx : p.tables.exec = Jvm.exec) (hb : c.code = cc) (hlocks : meth.locks = false) {M : rk_M2} (hr : meth.sig.returnType = M.2.2.2.2.1) (hml : c.maxLocals = M.2.1) (hins : ∀ r ∈ M.1, decode cc r.1 = .ok r.2) (hF : rk_Fr s m args meth D cl Ad tbl xw fty cln own M.2.2.1 M.2.2.2.1) (hck : ∀ r ∈ M.2.2.1, rk_cok tbl xw MN P own r) (hkk : ∀ r ∈ M.2.2.1, rk_kok tbl own r) {d : Nat} {call : tk_Ca} (hcall : tk_SC l D cl tbl xw xt MN P TY ro X ads tw d call) (hfr : d + 1 ≤ R.frames) (hlo : 40 * (d + 1) ≤ R.locals) {XS : List tk_X} {cut : Nat → tk_S → Option Bool} (hcut : ∀ pc st, cut pc st = some true → tk_St (rk_KW p l e R s m args below meth c (MQ below (tk_Post D cl TY ro X ads tw (XS, mods) vals0 rads0 ws0 Ad) args s R.cells R.slots Ad)) M.2.1 (tk_hr mods ws0 TY ro X ads tw s D cl Ad vals0 rads0) pc st) {fuel : Nat} {work : List (Nat × tk_S)} {xs : List tk_X} (h : tk_loop (tk_go1 (tk_fun mods TY fty mci call M) M.2.2.2.2.1 M.1) cut fuel work [] = some xs) (hX : ∀ x ∈ xs, x ∈ XS) : ∀ q ∈ work, tk_St (rk_KW p l e R s m args below meth c (MQ below (tk_Post D cl TY ro X ads tw (XS, mods) vals0 rads0 ws0 Ad) args s R.cells R.slots Ad)) M.2.1 (tk_hr mods ws0 TY ro X ads tw s D cl Ad vals0 rads0) q.1 q.2 := by
  refine (tk_loop_ok (W := fun pc st => tk_St (rk_KW p l e R s m args below meth c (MQ below (tk_Post D cl TY ro X ads tw (XS, mods) vals0 rads0 ws0 Ad) args s R.cells R.slots Ad)) M.2.1 (tk_hr mods ws0 TY ro X ads tw s D cl Ad vals0 rads0) pc st) (XS := XS) hcut ?_ ?_ fuel work [] xs h hX).2
  · intro z x hz hX2
    obtain ⟨ins, len, g1, g2, g3⟩ := tk_go1_l hz
    have hdg : decode cc z.1 = .ok (ins, len) := hins (z.1, ins, len) g1
    exact tk_end_ok (pc := z.1) (ins := ins) (len := len) (st := z.2) (x := x) hx hb hlocks hr hdg g2 g3 hX2
  · intro z li hz hk
    obtain ⟨ins, len, F, g1, g2, g3, g4⟩ := tk_go1_r hz
    have hdg : decode cc z.1 = .ok (ins, len) := hins (z.1, ins, len) g1
    exact tk_fun_ok hXs (pc := z.1) (ins := ins) (len := len) (F := F) (st := z.2) (res := li) hxt hXt hok hx hb hml hF hck hkk hcall hfr hlo hdg g2 g3 g4 hk
end TKM
def tk_meth (mods : List (Nat × Nat)) (TY : tk_TT) (fty : rk_F) (mci : List Nat) (P : List rk_M2) (fuel : Nat) (call : tk_Ca) : tk_Ca := fun f as w rf fa => match P[f]? with
  | some M => if M.2.1 ≤ 21 ∧ tk_sum as ≤ M.2.1 then (match tk_loop (tk_go1 (tk_fun mods TY fty mci call M) M.2.2.2.2.1 M.1) (fun _ _ => none) fuel [(0, (tk_args 0 as, [], w, rf, fa))] [] with
    | some xs => some (xs, mods)
    | none => none) else none
  | none => none
theorem tk_meth_ok (l : Launch) (D : va_G) {mods : List (Nat × Nat)} {cl : List vw_C} {tbl xw : List Jvm.Cond} {fty : rk_F} {cln : List String} {MN : List rk_N} {mci : List Nat} {P : List rk_M2} {xt : tk_XT} {TY : tk_TT} {ro : Nat → Nat → Int → Prop} {X : va_W → Prop} {ads tw : List Nat} (hXs : tk_xs TY X ads tw) (hxt : tk_xtok xt) (hok : rk_ok tbl xw cl fty cln MN mci P) (fuel : Nat) {d : Nat} {call : tk_Ca} (hcall : tk_SC l D cl tbl xw xt MN P TY ro X ads tw d call) : tk_SC l D cl tbl xw xt MN P TY ro X ads tw (d + 1) (tk_meth mods TY fty mci P fuel call) := by
  intro f as w rf fa o h q hq
  unfold tk_meth at h
  split at h
  · next M hM =>
    split at h
    · next hc =>
      split at h
      · next xs hxs =>
        cases h
        refine ⟨M, hM, hc.1, fun vals rads ws av sz hH h3 hA2 h4 h9 _ => ?_⟩
        obtain ⟨hgw, hxo, hcl, hac, hlenM, hmok, hmci⟩ := id hok
        obtain ⟨m1, m2, m3, m4, m5, m6, m7, m8, m9⟩ := hmok f q M hq hM
        refine Met.ofW (cc := q.2.2) (maxL := M.2.1) (ret := M.2.2.2.2.1) m1 rfl ?_
        intro p e s m args below meth c s₁ B hml hv
        obtain ⟨rfl, hsz, hP, hK, hD0, hC, hxw, hXt, hXw⟩ := hv
        have hts0 := atoms_spec (ws := Jvm.Cond.code q.2.1 q.2.2 M.2.1 M.2.2.2.2.1 :: tbl) B.pre
        have hts : ∀ w ∈ tbl, w.before av.toArray s = true := fun w hw => hts0 w (List.mem_cons_of_mem _ hw)
        have hown : s.vm.findClass q.1 = some m.cls := by rw [← m2]; exact findClass_of_methodNamed B.named
        have hnm : meth.name = q.2.1.name := (name_of_methodNamed B.named B.method).1
        subst hsz
        have hF : rk_Fr s m av.toArray meth D cl (va_A ws s.heap.size) tbl xw fty cln q.1 M.2.2.1 M.2.2.2.1 := ⟨hts, hxw, hown, hK, fun z hz => Or.inr hz, hcl, fun r hr => (m7 r hr).1, fun hz => by rw [hnm]; exact m8 hz, hac, m9⟩
        have key := tk_runW (l := l) (p := p) (e := e) (R := (headSpec (Jvm.Cond.code q.2.1 q.2.2 M.2.1 M.2.2.2.2.1 :: tbl) { frames := d + 1, cells := 0, slots := 0, locals := 40 * (d + 1) }).room) (below := below) (vals0 := vals) (rads0 := rads) (ws0 := ws) (mods := mods) (XS := xs) (cut := fun _ _ => none) hXs hxt hXt hok B.exec B.bytes B.notSynchronized B.returns hml m6 hF (fun r hr => (m7 r hr).2.1) (fun r hr => (m7 r hr).2.2) hcall (Nat.le_refl _) (Nat.le_refl _) (fun _ _ z => nomatch z) hxs (fun x hx => hx) _ (List.mem_singleton.mpr rfl)
        have hlen : (lg_sl av).length ≤ M.2.1 := by
          rw [rk_lgsl, ← tk_sum_ok hA2]
          exact hc.2
        have hl := lv_entry av (n := M.2.1) hlen
        rw [lg_entry_eq]
        exact key vals rads s.heap [] _ [] _ hH ⟨⟨[], by simp⟩, ⟨[], by simp⟩, h3, ws, h4, hC, hP, hD0.self, va_S.rf, ⟨tk_un_rf _ _ _ _, hXw⟩, h9⟩ hl (tk_args_ok 0 hA2) trivial
      · cases h
    · cases h
  · cases h
