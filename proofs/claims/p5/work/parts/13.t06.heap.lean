/-! ===== tk: the heap by types: each cell has a type by its place; a type says what a field, an element may be ===== -/
/-- 0 an int within, 1 a long within, 2 a reference of a type, 3 an int within what its place says, 4 and 5 an int, a long within, of which more may be known: it is never written -/
abbrev tk_F : Type := Nat × Int × Int
abbrev tk_TY : Type := (Nat × List tk_F) ⊕ (FieldType × Nat × tk_F)
def tk_ty (ads tw : List Nat) (t y : Nat) : Prop := ∃ j : Nat, ads[j]? = some y ∧ tw[j]? = some t
def tk_fv (ro : Nat → Nat → Int → Prop) (reg : Nat → Nat → tk_I) (ads tw : List Nat) (t i : Nat) (f : tk_F) (v : Value) : Prop := match f.1 with
  | 0 => ∃ x : Int32, v = .int x ∧ f.2.1 ≤ x.toInt ∧ x.toInt ≤ f.2.2
  | 1 => ∃ x : Int64, v = .long x ∧ f.2.1 ≤ x.toInt ∧ x.toInt ≤ f.2.2
  | 2 => ∃ y : Nat, v = .ref y ∧ tk_ty ads tw f.2.1.toNat y
  | 3 => ∃ x : Int32, v = .int x ∧ (reg f.2.1.toNat i).1 ≤ x.toInt ∧ x.toInt ≤ (reg f.2.1.toNat i).2
  | 4 => ∃ x : Int32, v = .int x ∧ f.2.1 ≤ x.toInt ∧ x.toInt ≤ f.2.2 ∧ ro t i x.toInt
  | 5 => ∃ x : Int64, v = .long x ∧ f.2.1 ≤ x.toInt ∧ x.toInt ≤ f.2.2 ∧ ro t i x.toInt
  | _ => False
def tk_ar (ro : Nat → Nat → Int → Prop) (reg : Nat → Nat → tk_I) (ads tw : List Nat) (t : Nat) (q : FieldType × Nat × tk_F) (cA : ClassId) (e : va_E) : Prop := match q.1 with
  | .int => ∃ f : Nat → Int32, e = .inl (cA, q.2.1, .inl f) ∧ ∀ i, i < q.2.1 → tk_fv ro reg ads tw t i q.2.2 (.int (f i))
  | .byte => ∃ f : Nat → Int32, e = .inl (cA, q.2.1, .inl f) ∧ ∀ i, i < q.2.1 → tk_fv ro reg ads tw t i q.2.2 (.int (f i))
  | .long => ∃ f : Nat → Int64, e = .inl (cA, q.2.1, .inr (.inl f)) ∧ ∀ i, i < q.2.1 → tk_fv ro reg ads tw t i q.2.2 (.long (f i))
  | .object _ => ∃ f : Nat → Option Nat, e = .inl (cA, q.2.1, .inr (.inr (.inr (.inr f)))) ∧ ∀ i, i < q.2.1 → tk_fv ro reg ads tw t i q.2.2 (va_rf (f i))
  | .array _ => ∃ f : Nat → Option Nat, e = .inl (cA, q.2.1, .inr (.inr (.inr (.inr f)))) ∧ ∀ i, i < q.2.1 → tk_fv ro reg ads tw t i q.2.2 (va_rf (f i))
  | _ => False
def tk_cl (TY : List tk_TY) (ro : Nat → Nat → Int → Prop) (reg : Nat → Nat → tk_I) (ads tw : List Nat) (U : State) (t : Nat) (e : va_E) : Prop := match TY[t]? with
  | some (.inl o) => ∃ vs : List Value, e = .inr (o.1, vs) ∧ vs.length = o.2.length ∧ ∀ (i : Nat) (f : tk_F) (v : Value), o.2[i]? = some f → vs[i]? = some v → tk_fv ro reg ads tw t i f v
  | some (.inr q) => ∃ cA, ArrOfT U cA q.1 ∧ va_RA U cA q.1 ∧ tk_ar ro reg ads tw t q cA e
  | none => False
/-- a fact: a field of a reference holds a value -/
def tk_fk (vals : List Int) (rads : List Nat) (ws : va_W) (q : Nat × Nat × tk_V) : Prop := ∃ (y j ci : Nat) (vs : List Value) (v : Value), rads[q.1]? = some y ∧ ws[j]? = some (y, .inr (ci, vs)) ∧ vs[q.2.1]? = some v ∧ tk_g vals rads q.2.2 v
theorem tk_fk_grow {vals : List Int} {rads : List Nat} {ws : va_W} {q : Nat × Nat × tk_V} (l : List Int) (r : List Nat) (h : tk_fk vals rads ws q) : tk_fk (vals ++ l) (rads ++ r) ws q := by
  obtain ⟨y, j, ci, vs, v, h1, h2, h3, h4⟩ := h
  exact ⟨y, j, ci, vs, v, by rw [List.getElem?_append_left (List.getElem?_eq_some_iff.mp h1).1]; exact h1, h2, h3, tk_g_grow l r h4⟩
/-- but for the named fields all objects are as they were -/
def tk_un (mods : List (Nat × Nat)) (tw : List Nat) (ws ws' : va_W) : Prop := ∀ (j y ci : Nat) (vs : List Value), ws[j]? = some (y, .inr (ci, vs)) → ∃ vs' : List Value, ws'[j]? = some (y, .inr (ci, vs')) ∧ ∀ k t : Nat, tw[j]? = some t → ¬ (t, k) ∈ mods → vs'[k]? = vs[k]?
theorem tk_un_rf (mods : List (Nat × Nat)) (tw : List Nat) (ws : va_W) : tk_un mods tw ws ws := fun _ _ _ vs h => ⟨vs, h, fun _ _ _ _ => rfl⟩
theorem tk_un_tr {m1 m2 : List (Nat × Nat)} {tw : List Nat} {ws w1 w2 : va_W} (h : tk_un m1 tw ws w1) (h2 : tk_un m2 tw w1 w2) (hs : ∀ z ∈ m2, z ∈ m1) : tk_un m1 tw ws w2 := by
  intro j y ci vs hj
  obtain ⟨v1, g1, g2⟩ := h j y ci vs hj
  obtain ⟨v2, g3, g4⟩ := h2 j y ci v1 g1
  exact ⟨v2, g3, fun k t ht hn => (g4 k t ht (fun z => hn (hs _ z))).trans (g2 k t ht hn)⟩
theorem tk_un_arr {mods : List (Nat × Nat)} {tw : List Nat} {ws : va_W} {j x : Nat} {cA : ClassId} {z : vp_A} (e' : va_E) (hw : ws[j]? = some (x, .inl (cA, z))) : tk_un mods tw ws (ws.set j (x, e')) := by
  intro j' y ci vs hj
  have hne : ¬ j = j' := by
    intro e
    subst e
    rw [hw] at hj
    cases hj
  exact ⟨vs, by rw [List.getElem?_set_ne hne]; exact hj, fun _ _ _ _ => rfl⟩
theorem tk_un_put {mods : List (Nat × Nat)} {tw : List Nat} {ws : va_W} {j x ci t k : Nat} {vs : List Value} (u : Value) (hw : ws[j]? = some (x, .inr (ci, vs))) (hj : tw[j]? = some t) (hm : (t, k) ∈ mods) : tk_un mods tw ws (ws.set j (x, .inr (ci, vs.set k u))) := by
  intro j' y ci' vs' hj'
  by_cases e : j = j'
  · subst e
    rw [hw] at hj'
    cases hj'
    refine ⟨vs.set k u, List.getElem?_set_self (List.getElem?_eq_some_iff.mp hw).1, fun k' t' ht' hn => ?_⟩
    rw [hj] at ht'
    cases ht'
    have hne : ¬ k = k' := by
      intro z
      rw [z] at hm
      exact hn hm
    exact List.getElem?_set_ne hne
  · exact ⟨vs', by rw [List.getElem?_set_ne e]; exact hj', fun _ _ _ _ => rfl⟩
def tk_hr (mods : List (Nat × Nat)) (ws0 : va_W) (TY : List tk_TY) (ro : Nat → Nat → Int → Prop) (reg : Nat → Nat → tk_I) (ads tw : List Nat) (s : State) (D : va_G) (cl : List vw_C) (Ad : Nat → Prop) (vals0 : List Int) (rads0 : List Nat) : tk_Hr := fun vals rads H locs rf fa =>
  (∃ l, vals = vals0 ++ l) ∧ (∃ l, rads = rads0 ++ l) ∧ rk_A2 (fun t y => tk_ty ads tw t y) rf rads ∧ ∃ ws : va_W, ws.map Prod.fst = ads ∧ rk_A2 (fun t (q : Nat × va_E) => tk_cl TY ro reg ads tw s t q.2) tw ws ∧ va_P D cl ws H ∧ va_D Ad ws ∧ va_S Ad s.heap H locs ∧ tk_un mods tw ws0 ws ∧ ∀ q ∈ fa, tk_fk vals rads ws q
theorem tk_hr_gr {mods : List (Nat × Nat)} {ws0 : va_W} {TY : List tk_TY} {ro : Nat → Nat → Int → Prop} {reg : Nat → Nat → tk_I} {ads tw : List Nat} {s : State} {D : va_G} {cl : List vw_C} {Ad : Nat → Prop} {vals0 : List Int} {rads0 : List Nat} : tk_gr (tk_hr mods ws0 TY ro reg ads tw s D cl Ad vals0 rads0) := by
  intro vals l rads H locs rf fa h
  obtain ⟨⟨k, h1⟩, h2, h3, ws, h4, h5, h6, h7, h8, hun, h9⟩ := h
  refine ⟨⟨k ++ l, by rw [h1, List.append_assoc]⟩, h2, h3, ws, h4, h5, h6, h7, h8, hun, fun q hq => ?_⟩
  have := tk_fk_grow l [] (h9 q hq)
  rw [List.append_nil] at this
  exact this
/-- a cell by its reference -/
theorem tk_cell {TY : List tk_TY} {ro : Nat → Nat → Int → Prop} {reg : Nat → Nat → tk_I} {ads tw : List Nat} {s : State} {ws : va_W} {t y : Nat} (h4 : ws.map Prod.fst = ads) (h5 : rk_A2 (fun t (q : Nat × va_E) => tk_cl TY ro reg ads tw s t q.2) tw ws) (h : tk_ty ads tw t y) : ∃ (j : Nat) (e : va_E), ws[j]? = some (y, e) ∧ tw[j]? = some t ∧ tk_cl TY ro reg ads tw s t e := by
  obtain ⟨j, h1, h2⟩ := h
  obtain ⟨q, g1, g2⟩ := h5.get h2
  rw [← h4, List.getElem?_map, g1] at h1
  cases h1
  exact ⟨j, q.2, g1, h2, g2⟩
def tk_fl : tk_FA → Nat → Nat → Option tk_V
  | [], _, _ => none
  | q :: r, a, k => cond (Nat.beq q.1 a) (cond (Nat.beq q.2.1 k) (some q.2.2) (tk_fl r a k)) (tk_fl r a k)
theorem tk_fl_mem {a k : Nat} {v : tk_V} : ∀ {fa : tk_FA}, tk_fl fa a k = some v → (a, k, v) ∈ fa := by
  intro fa
  induction fa with
  | nil => intro h; cases h
  | cons q r ih =>
    intro h
    unfold tk_fl at h
    cases h1 : Nat.beq q.1 a with
    | false => rw [h1] at h; exact List.mem_cons_of_mem _ (ih h)
    | true =>
      rw [h1] at h
      cases h2 : Nat.beq q.2.1 k with
      | false => rw [h2] at h; exact List.mem_cons_of_mem _ (ih h)
      | true =>
        rw [h2] at h
        have e : q.2.2 = v := Option.some.inj (show some q.2.2 = some v from h)
        rw [← Nat.eq_of_beq_eq_true h1, ← Nat.eq_of_beq_eq_true h2, ← e]
        exact List.mem_cons_self
/-- what is loaded of a field, an element: a new value -/
def tk_nw (w : tk_W) (rf : List Nat) (f : tk_F) : Option (tk_V × tk_W × List Nat) := match f.1 with
  | 0 => some ((tk_new w.1 0 f.2).1, ((tk_new w.1 0 f.2).2, w.2), rf)
  | 1 => some ((tk_new w.1 1 f.2).1, ((tk_new w.1 1 f.2).2, w.2), rf)
  | 2 => some ((2, rf.length, 0, 0), w, rf ++ [f.2.1.toNat])
  | 4 => some ((tk_new w.1 0 f.2).1, ((tk_new w.1 0 f.2).2, w.2), rf)
  | 5 => some ((tk_new w.1 1 f.2).1, ((tk_new w.1 1 f.2).2, w.2), rf)
  | _ => none
theorem tk_nw_ok {ro : Nat → Nat → Int → Prop} {reg : Nat → Nat → tk_I} {ads tw : List Nat} {w : tk_W} {rf : List Nat} {f : tk_F} {q : tk_V × tk_W × List Nat} {vals : List Int} {rads : List Nat} {t i : Nat} {v : Value} (hH : tk_H w vals) (h3 : rk_A2 (fun t y => tk_ty ads tw t y) rf rads) (hv : tk_fv ro reg ads tw t i f v) (h : tk_nw w rf f = some q) : ∃ l r, tk_H q.2.1 (vals ++ l) ∧ rk_A2 (fun t y => tk_ty ads tw t y) q.2.2 (rads ++ r) ∧ tk_g (vals ++ l) (rads ++ r) q.1 v := by
  have hI : ∀ (k : Nat) (x : Int) (v : Value), f.2.1 ≤ x → x ≤ f.2.2 → (∀ l, tk_num (vals ++ l) (tk_new w.1 k f.2).1 = some x → tk_g (vals ++ l) (rads ++ []) (tk_new w.1 k f.2).1 v) → ∃ l r, tk_H ((tk_new w.1 k f.2).2, w.2) (vals ++ l) ∧ rk_A2 (fun t y => tk_ty ads tw t y) rf (rads ++ r) ∧ tk_g (vals ++ l) (rads ++ r) (tk_new w.1 k f.2).1 v := by
    intro k x v h1 h2 h4
    obtain ⟨-, l, hE, hn⟩ := tk_new_ok k hH.1 h1 h2
    exact ⟨l, [], ⟨hE, tk_C_grow l hH.2⟩, by rw [List.append_nil]; exact h3, h4 l hn⟩
  unfold tk_nw at h
  unfold tk_fv at hv
  split at h
  · next e =>
    cases h
    rw [e] at hv
    obtain ⟨x, rfl, h1, h2⟩ := hv
    exact hI 0 x.toInt _ h1 h2 (fun l hn => tk_gi (tk_new_ok 0 hH.1 h1 h2).1 hn)
  · next e =>
    cases h
    rw [e] at hv
    obtain ⟨x, rfl, h1, h2⟩ := hv
    exact hI 1 x.toInt _ h1 h2 (fun l hn => tk_gl (tk_new_ok 1 hH.1 h1 h2).1 hn)
  · next e =>
    cases h
    rw [e] at hv
    obtain ⟨y, rfl, h1⟩ := hv
    refine ⟨[], [y], by rw [List.append_nil]; exact hH, rk_A2.push h3 h1, ?_⟩
    show ∃ x : Nat, (rads ++ [y])[rf.length]? = some x ∧ Value.ref y = .ref x
    exact ⟨y, by rw [h3.len]; simp, rfl⟩
  · next e =>
    cases h
    rw [e] at hv
    obtain ⟨x, rfl, h1, h2, -⟩ := hv
    exact hI 0 x.toInt _ h1 h2 (fun l hn => tk_gi (tk_new_ok 0 hH.1 h1 h2).1 hn)
  · next e =>
    cases h
    rw [e] at hv
    obtain ⟨x, rfl, h1, h2, -⟩ := hv
    exact hI 1 x.toInt _ h1 h2 (fun l hn => tk_gl (tk_new_ok 1 hH.1 h1 h2).1 hn)
  · cases h
/-- getfield -/
def tk_f_get (TY : List tk_TY) (pc kd ci k : Nat) : tk_Fn := fun st => match st.2.1 with
  | a :: r => if a.1 = 2 ∧ kd ≤ 2 then (match st.2.2.2.1[a.2.1]? with
    | some t => (match TY[t]? with
      | some (.inl o) => if ci = o.1 then (match tk_fl st.2.2.2.2 a.2.1 k with
        | some v => some [(pc, (st.1, tk_nm st.2.2.1.1 v :: r, st.2.2))]
        | none => (match o.2[k]? with
          | some f => (match tk_nw st.2.2.1 st.2.2.2.1 f with
            | some q => some [(pc, (st.1, q.1 :: r, q.2.1, q.2.2, (a.2.1, k, q.1) :: st.2.2.2.2))]
            | none => none)
          | none => none)) else none
      | _ => none)
    | none => none) else none
  | _ => none
section TKH
variable {p : Program} {l : Launch} {e : Env} {R : Room} {s : State} {m : MethodId} {args : Array Value} {below : List Frame} {meth : Method} {c : Code} {Q : State → Prop} {cc : ByteArray} {D : va_G} {cl : List vw_C} {Ad : Nat → Prop} {nL : Nat} {vals0 : List Int} {rads0 : List Nat}
variable {mods : List (Nat × Nat)} {ws0 : va_W} {tbl xw : List Jvm.Cond} {fty : rk_F} {cln : List String} {own : String} {lk : List (Nat × Nat × Nat × Nat)} {cs : List (Nat × Value)} {TY : List tk_TY} {ro : Nat → Nat → Int → Prop} {reg : Nat → Nat → tk_I} {ads tw : List Nat}
set_option maxHeartbeats 4000000 in
theorem tk_get_ok (hx : p.tables.exec = Jvm.exec) (hb : c.code = cc) (hF : rk_Fr s m args meth D cl Ad tbl xw fty cln own lk cs) {pc idx kd ci k : Nat} {st : tk_S} {res : List (Nat × tk_S)} (hlk1 : rk_lk lk idx = some (kd, ci, k)) (hdg : decode cc pc = .ok (.getfield idx, 3)) (h : tk_f_get TY (pc + 3) kd ci k st = some res) (kk : ∀ q ∈ res, tk_St (rk_KW p l e R s m args below meth c Q) nL (tk_hr mods ws0 TY ro reg ads tw s D cl Ad vals0 rads0) q.1 q.2) : tk_St (rk_KW p l e R s m args below meth c Q) nL (tk_hr mods ws0 TY ro reg ads tw s D cl Ad vals0 rads0) pc st := by
  obtain ⟨hts, hxw, hown, hK, hA, hcl, hlk, hini, hac, hcs⟩ := hF
  obtain ⟨lo, sk, w, rf, fa⟩ := st
  intro vals rads H locs ls stk lc hH hR hl hL hS
  dsimp only at hH hR hL hS
  unfold tk_f_get at h
  split at h
  · next a r e1 =>
    dsimp only at e1
    subst e1
    split at h
    · next hk =>
      split at h
      · next t ht =>
        split at h
        · next o hT =>
          split at h
          · next hci =>
            dsimp only at ht
            obtain ⟨va, k1, rfl, hg, hS1⟩ := hS.cons
            obtain ⟨x, hax, rfl⟩ := tk_g2 hg hk.1
            obtain ⟨hv0, hr0, h3, ws, h4, h5, h6, h7, h8, hun, h9⟩ := id hR
            obtain ⟨x', hax', hty⟩ := h3.get ht
            rw [hax] at hax'
            cases hax'
            obtain ⟨j, e1, hw, hj, hc1⟩ := tk_cell h4 h5 hty
            unfold tk_cl at hc1
            rw [hT] at hc1
            obtain ⟨vs, rfl, hvl, hvs⟩ := hc1
            have fin : ∀ v, vs[k]? = some v → rk_KW p l e R s m args below meth c Q (pc + 3) ls (v :: k1) H locs 0 0 → rk_KW p l e R s m args below meth c Q pc ls (.ref x :: k1) H locs 0 0 := by
              intro v hv fin
              subst hci
              have hr := hlk _ (rk_lk_mem hlk1)
              rcases (show kd = 0 ∨ kd = 1 ∨ kd = 2 by omega) with rfl | rfl | rfl
              · obtain ⟨q, hq, hkN, hm⟩ := hr
                exact va_get (C := q.1) (T := q.2.1) (N := q.2.2) hx hb hts (hcl _ _ hq).1 hown hK h6 j hw hq k hkN (hts _ hm) (fun _ h9 => h9) hv hdg fin
              · obtain ⟨q, host, hq, hkN, hm⟩ := hr
                exact va_getN (C := q.1) (T := q.2.1) (N := q.2.2) hx hb hts (hcl _ _ hq).1 hown hK h6 j hw hq k hkN (va_Nw.use rfl (hxw _ hm)) (fun _ h9 => h9) hv hdg fin
              · obtain ⟨q, hq, hkN, hm, -⟩ := hr
                exact va_get (C := q.1) (T := q.2.1) (N := q.2.2) hx hb hts (hcl _ _ hq).1 hown hK h6 j hw hq k hkN (hts _ hm) (fun _ h9 => h9) hv hdg fin
            split at h
            · next v0 hv0' =>
              cases h
              obtain ⟨y, j', ci', vs', v, g1, g2, g3, g4⟩ := h9 _ (tk_fl_mem hv0')
              rw [hax] at g1
              cases g1
              have hjj := h7.1 j j' _ _ hw g2 rfl
              subst hjj
              rw [hw] at g2
              cases g2
              exact fin v g3 (kk _ (List.mem_singleton.mpr rfl) vals rads H locs ls _ lc hH hR hl hL ⟨tk_nm_ok hH.1 g4, hS1⟩)
            · split at h
              · next f hf =>
                split at h
                · next q hq =>
                  cases h
                  have hkl : k < vs.length := by rw [hvl]; exact (List.getElem?_eq_some_iff.mp hf).1
                  have hv : vs[k]? = some vs[k] := List.getElem?_eq_getElem hkl
                  obtain ⟨l1, r1, q1, q2, q3⟩ := tk_nw_ok hH h3 (hvs k f _ hf hv) hq
                  obtain ⟨kv, hv0⟩ := hv0
                  obtain ⟨kr, hr0⟩ := hr0
                  refine fin _ hv (kk _ (List.mem_singleton.mpr rfl) (vals ++ l1) (rads ++ r1) H locs ls _ lc q1 ⟨⟨kv ++ l1, by rw [hv0, List.append_assoc]⟩, ⟨kr ++ r1, by rw [hr0, List.append_assoc]⟩, q2, ws, h4, h5, h6, h7, h8, hun, fun z hz => ?_⟩ hl (hL.grow l1 r1) ⟨q3, tk_skG hS1 l1 r1⟩)
                  rcases List.mem_cons.mp hz with rfl | hz
                  · exact ⟨x, j, o.1, vs, vs[k], by rw [List.getElem?_append_left (List.getElem?_eq_some_iff.mp hax).1]; exact hax, hw, hv, q3⟩
                  · exact tk_fk_grow l1 r1 (h9 z hz)
                · cases h
              · cases h
          · cases h
        · cases h
      · cases h
    · cases h
  · cases h
end TKH
