/-! ===== tk: ends, a run, a method by its run ===== -/
def tk_rok (env : List tk_I) (ret : Option FieldType) (a : tk_V) : Bool := match ret with
  | some ty => tk_bt env ty a
  | none => false
def tk_end (ret : Option FieldType) (ins : Instr) (st : tk_S) : Option (Option tk_X) := match ins with
  | .return_ => match st.2.1, ret with
    | [], none => some (some (none, st.2.2.1, st.2.2.2.1, st.2.2.2.2))
    | _, _ => some none
  | .ireturn => match st.2.1 with
    | [a] => if tk_rok st.2.2.1.1 ret a = true ∧ a.1 = 0 then some (some (some a, st.2.2.1, st.2.2.2.1, st.2.2.2.2)) else some none
    | _ => some none
  | .lreturn => match st.2.1 with
    | [a] => if ret = some .long ∧ a.1 = 1 then some (some (some a, st.2.2.1, st.2.2.2.1, st.2.2.2.2)) else some none
    | _ => some none
  | _ => none
def tk_at : List (Nat × Instr × Nat) → Nat → Option (Nat × Instr × Nat)
  | [], _ => none
  | q :: r, pc => cond (Nat.beq q.1 pc) (some q) (tk_at r pc)
theorem tk_at_ok {pc : Nat} {q : Nat × Instr × Nat} : ∀ {l : List (Nat × Instr × Nat)}, tk_at l pc = some q → q ∈ l ∧ q.1 = pc := by
  intro l
  induction l with
  | nil => intro h; cases h
  | cons r l ih =>
    intro h
    unfold tk_at at h
    cases hb : Nat.beq r.1 pc with
    | true =>
      rw [hb] at h
      obtain rfl := Option.some.inj (show some r = some q from h)
      exact ⟨List.mem_cons_self, Nat.eq_of_beq_eq_true hb⟩
    | false =>
      rw [hb] at h
      have := ih h
      exact ⟨List.mem_cons_of_mem _ this.1, this.2⟩
def tk_go1 (fn : Nat → Instr → Option tk_Fn) (ret : Option FieldType) (ml : List (Nat × Instr × Nat)) (q : Nat × tk_S) : Option (tk_X ⊕ List (Nat × tk_S)) := match tk_at ml q.1 with
  | some (pc, ins, len) => if rk_len ins len = true then (match tk_end ret ins q.2 with
    | some (some x) => some (.inl x)
    | some none => none
    | none => (match fn pc ins with
      | some F => (match F q.2 with
        | some l => some (.inr l)
        | none => none)
      | none => none)) else none
  | none => none
/-- a refinement ahead of a step: one of the listed states it is -/
def tk_goL (fn : Nat → Instr → Option tk_Fn) (ret : Option FieldType) (ml : List (Nat × Instr × Nat)) (pc : Nat) : List tk_S → Option (List (Nat × tk_S))
  | [] => some []
  | st :: r => match tk_go1 fn ret ml (pc, st) with
    | some (.inr l) => (match tk_goL fn ret ml pc r with
      | some l2 => some (l ++ l2)
      | none => none)
    | _ => none
def tk_go1H (hk : Nat → tk_S → Option (List tk_S)) (fn : Nat → Instr → Option tk_Fn) (ret : Option FieldType) (ml : List (Nat × Instr × Nat)) (q : Nat × tk_S) : Option (tk_X ⊕ List (Nat × tk_S)) := match hk q.1 q.2 with
  | none => tk_go1 fn ret ml q
  | some l => match tk_goL fn ret ml q.1 l with
    | some r => some (.inr r)
    | none => none
theorem tk_goL_mem {fn : Nat → Instr → Option tk_Fn} {ret : Option FieldType} {ml : List (Nat × Instr × Nat)} {pc : Nat} {st : tk_S} : ∀ {l : List tk_S} {r : List (Nat × tk_S)}, tk_goL fn ret ml pc l = some r → st ∈ l → ∃ l1, tk_go1 fn ret ml (pc, st) = some (.inr l1) ∧ ∀ z ∈ l1, z ∈ r := by
  intro l
  induction l with
  | nil => intro r _ h; exact absurd h List.not_mem_nil
  | cons a l ih =>
    intro r h hm
    unfold tk_goL at h
    split at h
    · next l1 h1 =>
      split at h
      · next l2 h2 =>
        cases h
        rcases List.mem_cons.mp hm with rfl | hm
        · exact ⟨l1, h1, fun z hz => List.mem_append_left _ hz⟩
        · obtain ⟨l3, g1, g2⟩ := ih h2 hm
          exact ⟨l3, g1, fun z hz => List.mem_append_right _ (g2 z hz)⟩
      · cases h
    · cases h
def tk_loop (go : Nat × tk_S → Option (tk_X ⊕ List (Nat × tk_S))) (cut : Nat → tk_S → Option Bool) : Nat → List (Nat × tk_S) → List tk_X → Option (List tk_X)
  | 0, _, _ => none
  | _ + 1, [], acc => some acc
  | n + 1, q :: w, acc => match cut q.1 q.2 with
    | some true => tk_loop go cut n w acc
    | some false => none
    | none => match go q with
      | some (.inl x) => tk_loop go cut n w (x :: acc)
      | some (.inr l) => tk_loop go cut n (l ++ w) acc
      | none => none
theorem tk_loop_ok {go : Nat × tk_S → Option (tk_X ⊕ List (Nat × tk_S))} {cut : Nat → tk_S → Option Bool} {W : Nat → tk_S → Prop} {XS : List tk_X} (h1 : ∀ pc st, cut pc st = some true → W pc st) (h2 : ∀ q x, go q = some (.inl x) → x ∈ XS → W q.1 q.2) (h3 : ∀ q l, go q = some (.inr l) → (∀ z ∈ l, W z.1 z.2) → W q.1 q.2) : ∀ (n : Nat) (work : List (Nat × tk_S)) (acc xs : List tk_X), tk_loop go cut n work acc = some xs → (∀ x ∈ xs, x ∈ XS) → (∀ x ∈ acc, x ∈ xs) ∧ ∀ q ∈ work, W q.1 q.2 := by
  intro n
  induction n with
  | zero => intro work acc xs h; cases h
  | succ n ih =>
    intro work acc xs h hX
    cases work with
    | nil => cases h; exact ⟨fun _ h => h, fun _ h => absurd h List.not_mem_nil⟩
    | cons q w =>
      unfold tk_loop at h
      split at h
      · next hc =>
        obtain ⟨g1, g2⟩ := ih w acc xs h hX
        refine ⟨g1, fun z hz => ?_⟩
        rcases List.mem_cons.mp hz with rfl | hz
        · exact h1 _ _ hc
        · exact g2 z hz
      · cases h
      · split at h
        · next x hx =>
          obtain ⟨g1, g2⟩ := ih w (x :: acc) xs h hX
          refine ⟨fun y hy => g1 y (List.mem_cons_of_mem _ hy), fun z hz => ?_⟩
          rcases List.mem_cons.mp hz with rfl | hz
          · exact h2 _ x hx (hX _ (g1 x List.mem_cons_self))
          · exact g2 z hz
        · next l hl =>
          obtain ⟨g1, g2⟩ := ih (l ++ w) acc xs h hX
          refine ⟨g1, fun z hz => ?_⟩
          rcases List.mem_cons.mp hz with rfl | hz
          · exact h3 _ l hl (fun y hy => g2 y (List.mem_append_left _ hy))
          · exact g2 z (List.mem_append_right _ hz)
        · cases h
def tk_args : Nat → List tk_V → List (Nat × tk_V)
  | _, [] => []
  | i, a :: r => (i, a) :: tk_args (i + tk_cat a) r
theorem tk_args_ok {vals : List Int} {rads : List Nat} : ∀ {as : List tk_V} {av : List Value} (i : Nat), rk_A2 (tk_g vals rads) as av → tk_Lo vals rads (tk_args i as) (lv_args i av) := by
  intro as
  induction as with
  | nil => intro av i h; rw [h.nil]; trivial
  | cons a as ih =>
    intro av i h
    obtain ⟨v, k, rfl, hg, hs⟩ := h.cons
    refine ⟨⟨rfl, hg⟩, ?_⟩
    have e : i + tk_cat a = if v.category = 2 then i + 2 else i + 1 := by
      rw [tk_cat_ok hg]
      rcases lv_cat v with q | q <;> simp [q]
    rw [e]
    exact ih _ hs
section TKR
variable {p : Program} {l : Launch} {e : Env} {R : Room} {s : State} {m : MethodId} {args : Array Value} {below : List Frame} {meth : Method} {c : Code} {Q : State → Prop} {cc : ByteArray} {D : va_G} {cl : List vw_C} {Ad : Nat → Prop} {nL : Nat} {vals0 : List Int} {rads0 : List Nat}
variable {mods : List (Nat × Nat)} {ws0 : va_W} {tbl xw : List Jvm.Cond} {fty : rk_F} {cln : List String} {MN : List rk_N} {mci : List Nat} {P : List rk_M2} {own : String} {xt : tk_XT} {TY : tk_TT} {ro : Nat → Nat → Int → Prop} {X : va_W → Prop} {ads tw : List Nat}
theorem tk_end_ok (hx : p.tables.exec = Jvm.exec) (hb : c.code = cc) (hlocks : meth.locks = false) {ret : Option FieldType} (hr : meth.sig.returnType = ret) {XS : List tk_X} {pc : Nat} {ins : Instr} {len : Nat} {st : tk_S} {x : tk_X} (hdg : decode cc pc = .ok (ins, len)) (hlen : rk_len ins len = true) (h : tk_end ret ins st = some (some x)) (hXS : x ∈ XS) : tk_St (rk_KW p l e R s m args below meth c (MQ below (tk_Post D cl TY ro X ads tw (XS, mods) vals0 rads0 ws0 Ad) args s R.cells R.slots Ad)) nL (tk_hr mods ws0 TY ro X ads tw s D cl Ad vals0 rads0) pc st := by
  obtain ⟨lo, sk, w, rf, fa⟩ := st
  intro vals rads H locs ls stk lc hH hR hl hL hS
  dsimp only at hH hR hL hS
  obtain ⟨hv0, hr0, h3, ws, h4, h5, h6, h7, h8, hun, h9⟩ := id hR
  have hpost : ∀ (r : Option tk_V) (oc : Outcome), (r, w, rf, fa) ∈ XS → tk_ret r vals rads oc → ∀ t : State, t.heap = H → s.WarmedH t.vm → tk_Post D cl TY ro X ads tw (XS, mods) vals0 rads0 ws0 Ad args s oc t := fun r oc hX hret t ht hW => ⟨⟨_, hX, vals, rads, ws, hv0, hr0, hH, h3, h4, h5.mono (fun _ _ h => tk_cl_moved hW.alike h), by rw [ht]; exact h6, h7, h9, hun, hret⟩, h8.F ht⟩
  unfold tk_end at h
  split at h
  · split at h
    · next hsk =>
      cases h
      simp [rk_len] at hlen; subst hlen
      dsimp only at hsk
      subst hsk
      have hnil := hS.nil
      subst hnil
      refine W.widen (k := R.cells) (n := R.slots) (Nat.zero_le _) (Nat.zero_le _) ?_
      exact W.vret hx hb hr (hpost none _ hXS rfl) h8.2.2 hdg
    · cases h
  · split at h
    · next a hsk =>
      split at h
      · next hro =>
        cases h
        simp [rk_len] at hlen; subst hlen
        dsimp only at hsk hro
        subst hsk
        obtain ⟨v, k, rfl, hg, hS1⟩ := hS.cons
        have hnil := hS1.nil
        subst hnil
        refine W.widen (k := R.cells) (n := R.slots) (Nat.zero_le _) (Nat.zero_le _) ?_
        obtain ⟨hro, hk⟩ := hro
        obtain ⟨x, rfl, hxn⟩ := tk_g0 hg hk
        have hp2 := hpost (some a) (.returned (some (.int x))) hXS ⟨_, hg, rfl⟩
        unfold tk_rok at hro
        split at hro
        · next ty =>
          have hfit := tk_bt_ok hH.1 hg hro
          unfold tk_bt at hro
          split at hro
          · exact W.iret hx hb hr hp2 h8.2.2 hdg
          · rw [beq_iff_eq] at hro; rw [hk] at hro; cases hro
          · exact W.zret (ty := .boolean) hx hb hr hfit.1 hp2 h8.2.2 hdg
          · cases hro
        · cases hro
      · cases h
    · cases h
  · split at h
    · next a hsk =>
      split at h
      · next hro =>
        cases h
        simp [rk_len] at hlen; subst hlen
        dsimp only at hsk hro
        subst hsk
        obtain ⟨v, k, rfl, hg, hS1⟩ := hS.cons
        have hnil := hS1.nil
        subst hnil
        refine W.widen (k := R.cells) (n := R.slots) (Nat.zero_le _) (Nat.zero_le _) ?_
        obtain ⟨x, rfl, hxn⟩ := tk_g1 hg hro.2
        exact W.lret hx hb (by rw [hr]; exact hro.1) (hpost (some a) _ hXS ⟨_, hg, rfl⟩) h8.2.2 hdg
      · cases h
    · cases h
  · cases h
end TKR
