/-! ===== tk: the heap by types: each cell has a type by its place; a type says what a field, an element may be ===== -/
/-- 6 a long within of which facts are kept; 0 an int within, 1 a long within, 2 a reference of a type, 3 an int within what its place says, 4 and 5 an int, a long within, of which more may be known: it is never written -/
abbrev tk_F : Type := Nat × Int × Int
abbrev tk_TY : Type := (Nat × List tk_F) ⊕ (FieldType × Nat × tk_F)
/-- the types; what a place of kind 3 may be; the regions of a type's places; places that no step may write; but where this allows it -/
abbrev tk_TT : Type := List tk_TY × (Nat → Nat → tk_I) × (Nat → Option (Nat → Nat)) × List (Nat × Nat) × (tk_S → Nat → Nat → tk_V → tk_V → Bool)
def tk_rg (TY : tk_TT) (t i : Nat) : Nat := match TY.2.2.1 t with
  | none => 0
  | some g => g i
def tk_ty (ads tw : List Nat) (t y : Nat) : Prop := ∃ j : Nat, ads[j]? = some y ∧ tw[j]? = some t
def tk_fv (ro : Nat → Nat → Int → Prop) (reg : Nat → Nat → tk_I) (ads tw : List Nat) (t i : Nat) (f : tk_F) (v : Value) : Prop := match f.1 with
  | 0 => ∃ x : Int32, v = .int x ∧ f.2.1 ≤ x.toInt ∧ x.toInt ≤ f.2.2
  | 1 => ∃ x : Int64, v = .long x ∧ f.2.1 ≤ x.toInt ∧ x.toInt ≤ f.2.2
  | 2 => ∃ y : Nat, v = .ref y ∧ tk_ty ads tw (f.2.1.toNat + i * f.2.2.toNat) y
  | 3 => ∃ x : Int32, v = .int x ∧ (reg f.2.1.toNat i).1 ≤ x.toInt ∧ x.toInt ≤ (reg f.2.1.toNat i).2
  | 4 => ∃ x : Int32, v = .int x ∧ f.2.1 ≤ x.toInt ∧ x.toInt ≤ f.2.2 ∧ ro t i x.toInt
  | 5 => ∃ x : Int64, v = .long x ∧ f.2.1 ≤ x.toInt ∧ x.toInt ≤ f.2.2 ∧ ro t i x.toInt
  | 6 => ∃ x : Int64, v = .long x ∧ f.2.1 ≤ x.toInt ∧ x.toInt ≤ f.2.2
  | _ => False
def tk_ar (ro : Nat → Nat → Int → Prop) (reg : Nat → Nat → tk_I) (ads tw : List Nat) (t : Nat) (q : FieldType × Nat × tk_F) (cA : ClassId) (e : va_E) : Prop := match q.1 with
  | .int => ∃ f : Nat → Int32, e = .inl (cA, q.2.1, .inl f) ∧ ∀ i, i < q.2.1 → tk_fv ro reg ads tw t i q.2.2 (.int (f i))
  | .byte => ∃ f : Nat → Int32, e = .inl (cA, q.2.1, .inl f) ∧ ∀ i, i < q.2.1 → tk_fv ro reg ads tw t i q.2.2 (.int (f i))
  | .long => ∃ f : Nat → Int64, e = .inl (cA, q.2.1, .inr (.inl f)) ∧ ∀ i, i < q.2.1 → tk_fv ro reg ads tw t i q.2.2 (.long (f i))
  | .object _ => ∃ f : Nat → Option Nat, e = .inl (cA, q.2.1, .inr (.inr (.inr (.inr f)))) ∧ ∀ i, i < q.2.1 → tk_fv ro reg ads tw t i q.2.2 (va_rf (f i))
  | .array _ => ∃ f : Nat → Option Nat, e = .inl (cA, q.2.1, .inr (.inr (.inr (.inr f)))) ∧ ∀ i, i < q.2.1 → tk_fv ro reg ads tw t i q.2.2 (va_rf (f i))
  | _ => False
def tk_cl (TY : tk_TT) (ro : Nat → Nat → Int → Prop) (ads tw : List Nat) (U : State) (t : Nat) (e : va_E) : Prop := match TY.1[t]? with
  | some (.inl o) => ∃ vs : List Value, e = .inr (o.1, vs) ∧ vs.length = o.2.length ∧ ∀ (i : Nat) (f : tk_F) (v : Value), o.2[i]? = some f → vs[i]? = some v → tk_fv ro TY.2.1 ads tw t i f v
  | some (.inr q) => ∃ cA, ArrOfT U cA q.1 ∧ va_RA U cA q.1 ∧ tk_ar ro TY.2.1 ads tw t q cA e
  | none => True
/-- what stands at a place of a cell -/
def tk_el (z : vp_A) (i : Nat) : Value := match z.2 with
  | .inl f => .int (f i)
  | .inr (.inl f) => .long (f i)
  | .inr (.inr (.inr (.inr f))) => va_rf (f i)
  | _ => .null
def tk_pos (e : va_E) (i : Nat) : Option Value := match e with
  | .inr (_, vs) => vs[i]?
  | .inl (_, z) => if i < z.1 then some (tk_el z i) else none
/-- a fact: a place of a reference's cell holds a value -/
def tk_fk (vals : List Int) (rads : List Nat) (ws : va_W) (q : Nat × tk_V × tk_V) : Prop := ∃ (y j i : Nat) (e : va_E) (v : Value), rads[q.1]? = some y ∧ tk_num vals q.2.1 = some (i : Int) ∧ ws[j]? = some (y, e) ∧ tk_pos e i = some v ∧ tk_g vals rads q.2.2 v
theorem tk_fk_grow {vals : List Int} {rads : List Nat} {ws : va_W} {q : Nat × tk_V × tk_V} (l : List Int) (r : List Nat) (h : tk_fk vals rads ws q) : tk_fk (vals ++ l) (rads ++ r) ws q := by
  obtain ⟨y, j, i, e, v, h1, h2, h3, h4, h5⟩ := h
  exact ⟨y, j, i, e, v, by rw [List.getElem?_append_left (List.getElem?_eq_some_iff.mp h1).1]; exact h1, tk_num_grow l h2, h3, h4, tk_g_grow l r h5⟩
/-- but for the named places all cells are as they were -/
def tk_un (TY : tk_TT) (mods : List (Nat × Nat)) (tw : List Nat) (ws ws' : va_W) : Prop := ∀ (j y : Nat) (e : va_E), ws[j]? = some (y, e) → ∃ e' : va_E, ws'[j]? = some (y, e') ∧ (∀ i t : Nat, tw[j]? = some t → ¬ (t, tk_rg TY t i) ∈ mods → tk_pos e' i = tk_pos e i) ∧ ∀ t : Nat, tw[j]? = some t → (∀ i, ¬ (t, tk_rg TY t i) ∈ mods) → e' = e
theorem tk_un_rf (TY : tk_TT) (mods : List (Nat × Nat)) (tw : List Nat) (ws : va_W) : tk_un TY mods tw ws ws := fun _ _ e h => ⟨e, h, fun _ _ _ _ => rfl, fun _ _ _ => rfl⟩
theorem tk_un_tr {TY : tk_TT} {m1 m2 : List (Nat × Nat)} {tw : List Nat} {ws w1 w2 : va_W} (h : tk_un TY m1 tw ws w1) (h2 : tk_un TY m2 tw w1 w2) (hs : ∀ z ∈ m2, z ∈ m1) : tk_un TY m1 tw ws w2 := by
  intro j y e hj
  obtain ⟨v1, g1, g2, g5⟩ := h j y e hj
  obtain ⟨v2, g3, g4, g6⟩ := h2 j y v1 g1
  exact ⟨v2, g3, fun k t ht hn => (g4 k t ht (fun z => hn (hs _ z))).trans (g2 k t ht hn), fun t ht hn => (g6 t ht (fun i z => hn i (hs _ z))).trans (g5 t ht hn)⟩
theorem tk_un_set {TY : tk_TT} {mods : List (Nat × Nat)} {tw : List Nat} {ws : va_W} {j x t : Nat} {e e' : va_E} (hw : ws[j]? = some (x, e)) (hj : tw[j]? = some t) (h : ∀ i, ¬ (t, tk_rg TY t i) ∈ mods → tk_pos e' i = tk_pos e i) (hs : ∃ i, (t, tk_rg TY t i) ∈ mods) : tk_un TY mods tw ws (ws.set j (x, e')) := by
  intro j' y e2 hj'
  by_cases ej : j = j'
  · subst ej
    rw [hw] at hj'
    cases hj'
    refine ⟨e', List.getElem?_set_self (List.getElem?_eq_some_iff.mp hw).1, fun i t' ht' hn => ?_, fun t' ht' hn => ?_⟩
    · rw [hj] at ht'
      cases ht'
      exact h i hn
    · rw [hj] at ht'
      cases ht'
      obtain ⟨i, hi⟩ := hs
      exact absurd hi (hn i)
  · exact ⟨e2, by rw [List.getElem?_set_ne ej]; exact hj', fun _ _ _ _ => rfl, fun _ _ _ => rfl⟩
/-- X holds on: steps write no place that it speaks of -/
def tk_ux (TY : tk_TT) (X : va_W → Prop) (mods : List (Nat × Nat)) (tw : List Nat) (ws ws' : va_W) : Prop := tk_un TY mods tw ws ws' ∧ X ws'
def tk_xs (TY : tk_TT) (X : va_W → Prop) (ads tw : List Nat) : Prop := (∀ (m : List (Nat × Nat)) (ws ws' : va_W), ws'.map Prod.fst = ws.map Prod.fst → (∀ z ∈ m, ¬ z ∈ TY.2.2.2.1) → tk_un TY m tw ws ws' → X ws → X ws') ∧ ∀ (st : tk_S) (t r i x j : Nat) (key v : tk_V) (e e' : va_E) (u : Value) (vals : List Int) (rads : List Nat) (ws : va_W) (A : Nat → Prop), TY.2.2.2.2 st t r key v = true → tk_H st.2.2.1 vals → rk_A2 (fun t y => tk_ty ads tw t y) st.2.2.2.1 rads → (∀ z ∈ st.2.2.2.2, tk_fk vals rads ws z) → va_D A ws → ws.map Prod.fst = ads → rads[r]? = some x → tk_num vals key = some (i : Int) → ws[j]? = some (x, e) → tw[j]? = some t → tk_g vals rads v u → tk_pos e' i = some u → (∀ i', ¬ i' = i → tk_pos e' i' = tk_pos e i') → X ws → X (ws.set j (x, e'))
def tk_in (l : List (Nat × Nat)) (t r : Nat) : Bool := l.any (fun z => Nat.beq z.1 t && Nat.beq z.2 r)
theorem tk_in_ok {l : List (Nat × Nat)} {t r : Nat} : tk_in l t r = true ↔ (t, r) ∈ l := by
  unfold tk_in
  rw [List.any_eq_true]
  constructor
  · rintro ⟨z, z1, z2⟩
    rw [Bool.and_eq_true] at z2
    have e1 : z = (t, r) := Prod.ext (Nat.eq_of_beq_eq_true z2.1) (Nat.eq_of_beq_eq_true z2.2)
    rw [← e1]
    exact z1
  · intro h
    exact ⟨_, h, by simp⟩
/-- a place may be written -/
def tk_mw (TY : tk_TT) (mods : List (Nat × Nat)) (t r : Nat) : Bool := tk_in mods t r && !(tk_in TY.2.2.2.1 t r)
theorem tk_ux_set {TY : tk_TT} {X : va_W → Prop} {mods : List (Nat × Nat)} {ads tw : List Nat} (hXs : tk_xs TY X ads tw) {ws0 ws : va_W} {j x t r : Nat} {e e' : va_E} (hu : tk_ux TY X mods tw ws0 ws) (hw : ws[j]? = some (x, e)) (hj : tw[j]? = some t) (hm : tk_mw TY mods t r = true) (h : ∀ i, ¬ tk_rg TY t i = r → tk_pos e' i = tk_pos e i) (hr : ∃ i, tk_rg TY t i = r) : tk_ux TY X mods tw ws0 (ws.set j (x, e')) := by
  unfold tk_mw at hm
  rw [Bool.and_eq_true] at hm
  have h1 := tk_in_ok.mp hm.1
  have h2 : ¬ (t, r) ∈ TY.2.2.2.1 := fun z => by rw [tk_in_ok.mpr z] at hm; cases hm.2
  have hone : tk_un TY [(t, r)] tw ws (ws.set j (x, e')) := tk_un_set hw hj (fun i hn => h i (fun z => hn (by rw [z]; exact List.mem_singleton.mpr rfl))) (by
    obtain ⟨i, hi⟩ := hr
    exact ⟨i, by rw [hi]; exact List.mem_singleton.mpr rfl⟩)
  exact ⟨tk_un_tr hu.1 hone (fun z hz => by rw [List.mem_singleton.mp hz]; exact h1), hXs.1 _ _ _ (rk_map_set hw) (fun z hz => by rw [List.mem_singleton.mp hz]; exact h2) hone hu.2⟩
def tk_hr (mods : List (Nat × Nat)) (ws0 : va_W) (TY : tk_TT) (ro : Nat → Nat → Int → Prop) (X : va_W → Prop) (ads tw : List Nat) (s : State) (D : va_G) (cl : List vw_C) (Ad : Nat → Prop) (vals0 : List Int) (rads0 : List Nat) : tk_Hr := fun vals rads H locs rf fa =>
  (∃ l, vals = vals0 ++ l) ∧ (∃ l, rads = rads0 ++ l) ∧ rk_A2 (fun t y => tk_ty ads tw t y) rf rads ∧ ∃ ws : va_W, ws.map Prod.fst = ads ∧ rk_A2 (fun t (q : Nat × va_E) => tk_cl TY ro ads tw s t q.2) tw ws ∧ va_P D cl ws H ∧ va_D Ad ws ∧ va_S Ad s.heap H locs ∧ tk_ux TY X mods tw ws0 ws ∧ ∀ q ∈ fa, tk_fk vals rads ws q
theorem tk_hr_gr {mods : List (Nat × Nat)} {ws0 : va_W} {TY : tk_TT} {ro : Nat → Nat → Int → Prop} {X : va_W → Prop} {ads tw : List Nat} {s : State} {D : va_G} {cl : List vw_C} {Ad : Nat → Prop} {vals0 : List Int} {rads0 : List Nat} : tk_gr (tk_hr mods ws0 TY ro X ads tw s D cl Ad vals0 rads0) := by
  intro vals l rads H locs rf fa h
  obtain ⟨⟨k, h1⟩, h2, h3, ws, h4, h5, h6, h7, h8, hun, h9⟩ := h
  refine ⟨⟨k ++ l, by rw [h1, List.append_assoc]⟩, h2, h3, ws, h4, h5, h6, h7, h8, hun, fun q hq => ?_⟩
  have := tk_fk_grow l [] (h9 q hq)
  rw [List.append_nil] at this
  exact this
/-- a cell by its reference -/
theorem tk_cell {TY : tk_TT} {ro : Nat → Nat → Int → Prop} {ads tw : List Nat} {s : State} {ws : va_W} {t y : Nat} (h4 : ws.map Prod.fst = ads) (h5 : rk_A2 (fun t (q : Nat × va_E) => tk_cl TY ro ads tw s t q.2) tw ws) (h : tk_ty ads tw t y) : ∃ (j : Nat) (e : va_E), ws[j]? = some (y, e) ∧ tw[j]? = some t ∧ tk_cl TY ro ads tw s t e := by
  obtain ⟨j, h1, h2⟩ := h
  obtain ⟨q, g1, g2⟩ := h5.get h2
  rw [← h4, List.getElem?_map, g1] at h1
  cases h1
  exact ⟨j, q.2, g1, h2, g2⟩
/-- a field's place -/
def tk_ky (k : Nat) : tk_V := (0, 0, 0, (k : Int))
def tk_kq (a b : tk_V) : Bool := Nat.beq a.2.1 b.2.1 && (Nat.beq a.2.2.1 b.2.2.1 && decide (a.2.2.2 = b.2.2.2))
theorem tk_kq_ok {a b : tk_V} (h : tk_kq a b = true) (vals : List Int) : tk_num vals a = tk_num vals b := by
  unfold tk_kq at h
  rw [Bool.and_eq_true, Bool.and_eq_true] at h
  have h1 := Nat.eq_of_beq_eq_true h.1
  have h2 := Nat.eq_of_beq_eq_true h.2.1
  have h3 := of_decide_eq_true h.2.2
  unfold tk_num
  rw [h1, h2, h3]
def tk_fl : tk_FA → Nat → tk_V → Option tk_V
  | [], _, _ => none
  | q :: r, a, k => cond (Nat.beq q.1 a) (cond (tk_kq q.2.1 k) (some q.2.2) (tk_fl r a k)) (tk_fl r a k)
theorem tk_fl_mem {a : Nat} {k v : tk_V} : ∀ {fa : tk_FA}, tk_fl fa a k = some v → ∃ k', tk_kq k' k = true ∧ (a, k', v) ∈ fa := by
  intro fa
  induction fa with
  | nil => intro h; cases h
  | cons q r ih =>
    intro h
    unfold tk_fl at h
    cases h1 : Nat.beq q.1 a with
    | false => rw [h1] at h; obtain ⟨k', g1, g2⟩ := ih h; exact ⟨k', g1, List.mem_cons_of_mem _ g2⟩
    | true =>
      rw [h1] at h
      cases h2 : tk_kq q.2.1 k with
      | false => rw [h2] at h; obtain ⟨k', g1, g2⟩ := ih h; exact ⟨k', g1, List.mem_cons_of_mem _ g2⟩
      | true =>
        rw [h2] at h
        have e : q.2.2 = v := Option.some.inj (show some q.2.2 = some v from h)
        refine ⟨q.2.1, h2, ?_⟩
        rw [← Nat.eq_of_beq_eq_true h1, ← e]
        exact List.mem_cons_self
/-- a fact that is found: what stands there -/
theorem tk_fl_ok {vals : List Int} {rads : List Nat} {ws : va_W} {Ad : Nat → Prop} {fa : tk_FA} {a : Nat} {k v : tk_V} {x i j : Nat} {e : va_E} (h9 : ∀ z ∈ fa, tk_fk vals rads ws z) (h7 : va_D Ad ws) (h : tk_fl fa a k = some v) (hax : rads[a]? = some x) (hk : tk_num vals k = some (i : Int)) (hw : ws[j]? = some (x, e)) : ∃ u, tk_pos e i = some u ∧ tk_g vals rads v u := by
  obtain ⟨k', hk', hm⟩ := tk_fl_mem h
  obtain ⟨y, j', i', e', u, g1, g2, g3, g4, g5⟩ := h9 _ hm
  rw [hax] at g1
  obtain rfl := Option.some.inj g1
  dsimp only at g2
  rw [tk_kq_ok hk', hk] at g2
  have ei : i = i' := by
    have := Option.some.inj g2
    omega
  subst ei
  have hjj := h7.1 j j' _ _ hw g3 rfl
  subst hjj
  rw [hw] at g3
  cases g3
  exact ⟨u, g4, g5⟩
/-- what is loaded of a field, an element: a new value -/
def tk_nw (w : tk_W) (rf : List Nat) (f : tk_F) : Option (tk_V × tk_W × List Nat) := match f.1 with
  | 0 => some ((tk_new w.1 0 f.2).1, ((tk_new w.1 0 f.2).2, w.2), rf)
  | 1 => some ((tk_new w.1 1 f.2).1, ((tk_new w.1 1 f.2).2, w.2), rf)
  | 2 => cond (decide (f.2.2 = 0)) (some ((2, rf.length, 0, 0), w, rf ++ [f.2.1.toNat])) none
  | 4 => some ((tk_new w.1 0 f.2).1, ((tk_new w.1 0 f.2).2, w.2), rf)
  | 5 => some ((tk_new w.1 1 f.2).1, ((tk_new w.1 1 f.2).2, w.2), rf)
  | 6 => some ((tk_new w.1 1 f.2).1, ((tk_new w.1 1 f.2).2, w.2), rf)
  | _ => none
theorem tk_nw_ok {ro : Nat → Nat → Int → Prop} {reg : Nat → Nat → tk_I} {ads tw : List Nat} {w : tk_W} {rf : List Nat} {f : tk_F} {q : tk_V × tk_W × List Nat} {vals : List Int} {rads : List Nat} {t i : Nat} {v : Value} (hH : tk_H w vals) (h3 : rk_A2 (fun t y => tk_ty ads tw t y) rf rads) (hv : tk_fv ro reg ads tw t i f v) (h : tk_nw w rf f = some q) : ∃ l r, tk_H q.2.1 (vals ++ l) ∧ rk_A2 (fun t y => tk_ty ads tw t y) q.2.2 (rads ++ r) ∧ tk_g (vals ++ l) (rads ++ r) q.1 v := by
  have hI : ∀ (k : Nat) (x : Int) (v : Value), f.2.1 ≤ x → x ≤ f.2.2 → (∀ l, tk_num (vals ++ l) (tk_new w.1 k f.2).1 = some x → tk_g (vals ++ l) (rads ++ []) (tk_new w.1 k f.2).1 v) → ∃ l r, tk_H ((tk_new w.1 k f.2).2, w.2) (vals ++ l) ∧ rk_A2 (fun t y => tk_ty ads tw t y) rf (rads ++ r) ∧ tk_g (vals ++ l) (rads ++ r) (tk_new w.1 k f.2).1 v := by
    intro k x v h1 h2 h4
    obtain ⟨-, l, hE, hn⟩ := tk_new_ok k hH.1 h1 h2
    exact ⟨l, [], ⟨hE, tk_C_grow l hH.2⟩, by rw [List.append_nil]; exact h3, h4 l hn⟩
  unfold tk_nw at h
  unfold tk_fv at hv
  split at h
  · next e =>
    cases h
    rw [e] at hv
    obtain ⟨x, rfl, h1, h2⟩ := hv
    exact hI 0 x.toInt _ h1 h2 (fun l hn => tk_gi (tk_new_ok 0 hH.1 h1 h2).1 hn)
  · next e =>
    cases h
    rw [e] at hv
    obtain ⟨x, rfl, h1, h2⟩ := hv
    exact hI 1 x.toInt _ h1 h2 (fun l hn => tk_gl (tk_new_ok 1 hH.1 h1 h2).1 hn)
  · next e =>
    cases h0 : decide (f.2.2 = 0) with
    | false => rw [h0] at h; cases h
    | true =>
    rw [h0] at h
    cases h
    rw [e] at hv
    obtain ⟨y, rfl, h1⟩ := hv
    rw [of_decide_eq_true h0] at h1
    have h1 : tk_ty ads tw f.2.1.toNat y := by simpa using h1
    refine ⟨[], [y], by rw [List.append_nil]; exact hH, rk_A2.push h3 h1, ?_⟩
    show ∃ x : Nat, (rads ++ [y])[rf.length]? = some x ∧ Value.ref y = .ref x
    exact ⟨y, by rw [h3.len]; simp, rfl⟩
  · next e =>
    cases h
    rw [e] at hv
    obtain ⟨x, rfl, h1, h2, -⟩ := hv
    exact hI 0 x.toInt _ h1 h2 (fun l hn => tk_gi (tk_new_ok 0 hH.1 h1 h2).1 hn)
  · next e =>
    cases h
    rw [e] at hv
    obtain ⟨x, rfl, h1, h2, -⟩ := hv
    exact hI 1 x.toInt _ h1 h2 (fun l hn => tk_gl (tk_new_ok 1 hH.1 h1 h2).1 hn)
  · next e =>
    cases h
    rw [e] at hv
    obtain ⟨x, rfl, h1, h2⟩ := hv
    exact hI 1 x.toInt _ h1 h2 (fun l hn => tk_gl (tk_new_ok 1 hH.1 h1 h2).1 hn)
  · cases h
/-- getfield -/
def tk_f_get (TY : tk_TT) (pc kd ci k : Nat) : tk_Fn := fun st => match st.2.1 with
  | a :: r => if a.1 = 2 ∧ kd ≤ 2 then (match st.2.2.2.1[a.2.1]? with
    | some t => (match TY.1[t]? with
      | some (.inl o) => if ci = o.1 then (match tk_fl st.2.2.2.2 a.2.1 (tk_ky k) with
        | some v => some [(pc, (st.1, tk_nm st.2.2.1.1 v :: r, st.2.2))]
        | none => (match o.2[k]? with
          | some f => (match tk_nw st.2.2.1 st.2.2.2.1 f with
            | some q => some [(pc, (st.1, q.1 :: r, q.2.1, q.2.2, (a.2.1, tk_ky k, q.1) :: st.2.2.2.2))]
            | none => none)
          | none => none)) else none
      | _ => none)
    | none => none) else none
  | _ => none
section TKH
variable {p : Program} {l : Launch} {e : Env} {R : Room} {s : State} {m : MethodId} {args : Array Value} {below : List Frame} {meth : Method} {c : Code} {Q : State → Prop} {cc : ByteArray} {D : va_G} {cl : List vw_C} {Ad : Nat → Prop} {nL : Nat} {vals0 : List Int} {rads0 : List Nat}
variable {mods : List (Nat × Nat)} {ws0 : va_W} {tbl xw : List Jvm.Cond} {fty : rk_F} {cln : List String} {own : String} {lk : List (Nat × Nat × Nat × Nat)} {cs : List (Nat × Value)} {TY : tk_TT} {ro : Nat → Nat → Int → Prop} {X : va_W → Prop} {ads tw : List Nat}
set_option maxHeartbeats 4000000 in
theorem tk_get_ok (hx : p.tables.exec = Jvm.exec) (hb : c.code = cc) (hF : rk_Fr s m args meth D cl Ad tbl xw fty cln own lk cs) {pc idx kd ci k : Nat} {st : tk_S} {res : List (Nat × tk_S)} (hlk1 : rk_lk lk idx = some (kd, ci, k)) (hdg : decode cc pc = .ok (.getfield idx, 3)) (h : tk_f_get TY (pc + 3) kd ci k st = some res) (kk : ∀ q ∈ res, tk_St (rk_KW p l e R s m args below meth c Q) nL (tk_hr mods ws0 TY ro X ads tw s D cl Ad vals0 rads0) q.1 q.2) : tk_St (rk_KW p l e R s m args below meth c Q) nL (tk_hr mods ws0 TY ro X ads tw s D cl Ad vals0 rads0) pc st := by
  obtain ⟨hts, hxw, hown, hK, hA, hcl, hlk, hini, hac, hcs⟩ := hF
  obtain ⟨lo, sk, w, rf, fa⟩ := st
  intro vals rads H locs ls stk lc hH hR hl hL hS
  dsimp only at hH hR hL hS
  unfold tk_f_get at h
  split at h
  · next a r e1 =>
    dsimp only at e1
    subst e1
    split at h
    · next hk =>
      split at h
      · next t ht =>
        split at h
        · next o hT =>
          split at h
          · next hci =>
            dsimp only at ht
            obtain ⟨va, k1, rfl, hg, hS1⟩ := hS.cons
            obtain ⟨x, hax, rfl⟩ := tk_g2 hg hk.1
            obtain ⟨hv0, hr0, h3, ws, h4, h5, h6, h7, h8, hun, h9⟩ := id hR
            obtain ⟨x', hax', hty⟩ := h3.get ht
            rw [hax] at hax'
            cases hax'
            obtain ⟨j, e1, hw, hj, hc1⟩ := tk_cell h4 h5 hty
            unfold tk_cl at hc1
            rw [hT] at hc1
            obtain ⟨vs, rfl, hvl, hvs⟩ := hc1
            have fin : ∀ v, vs[k]? = some v → rk_KW p l e R s m args below meth c Q (pc + 3) ls (v :: k1) H locs 0 0 → rk_KW p l e R s m args below meth c Q pc ls (.ref x :: k1) H locs 0 0 := by
              intro v hv fin
              subst hci
              have hr := hlk _ (rk_lk_mem hlk1)
              rcases (show kd = 0 ∨ kd = 1 ∨ kd = 2 by omega) with rfl | rfl | rfl
              · obtain ⟨q, hq, hkN, hm⟩ := hr
                exact va_get (C := q.1) (T := q.2.1) (N := q.2.2) hx hb hts (hcl _ _ hq).1 hown hK h6 j hw hq k hkN (hts _ hm) (fun _ h9 => h9) hv hdg fin
              · obtain ⟨q, host, hq, hkN, hm⟩ := hr
                exact va_getN (C := q.1) (T := q.2.1) (N := q.2.2) hx hb hts (hcl _ _ hq).1 hown hK h6 j hw hq k hkN (va_Nw.use rfl (hxw _ hm)) (fun _ h9 => h9) hv hdg fin
              · obtain ⟨q, hq, hkN, hm, -⟩ := hr
                exact va_get (C := q.1) (T := q.2.1) (N := q.2.2) hx hb hts (hcl _ _ hq).1 hown hK h6 j hw hq k hkN (hts _ hm) (fun _ h9 => h9) hv hdg fin
            split at h
            · next v0 hv0' =>
              cases h
              obtain ⟨v, g3, g4⟩ := tk_fl_ok h9 h7 hv0' hax (i := k) rfl hw
              exact fin v g3 (kk _ (List.mem_singleton.mpr rfl) vals rads H locs ls _ lc hH hR hl hL ⟨tk_nm_ok hH.1 g4, hS1⟩)
            · split at h
              · next f hf =>
                split at h
                · next q hq =>
                  cases h
                  have hkl : k < vs.length := by rw [hvl]; exact (List.getElem?_eq_some_iff.mp hf).1
                  have hv : vs[k]? = some vs[k] := List.getElem?_eq_getElem hkl
                  obtain ⟨l1, r1, q1, q2, q3⟩ := tk_nw_ok hH h3 (hvs k f _ hf hv) hq
                  obtain ⟨kv, hv0⟩ := hv0
                  obtain ⟨kr, hr0⟩ := hr0
                  refine fin _ hv (kk _ (List.mem_singleton.mpr rfl) (vals ++ l1) (rads ++ r1) H locs ls _ lc q1 ⟨⟨kv ++ l1, by rw [hv0, List.append_assoc]⟩, ⟨kr ++ r1, by rw [hr0, List.append_assoc]⟩, q2, ws, h4, h5, h6, h7, h8, hun, fun z hz => ?_⟩ hl (hL.grow l1 r1) ⟨q3, tk_skG hS1 l1 r1⟩)
                  rcases List.mem_cons.mp hz with rfl | hz
                  · exact ⟨x, j, k, .inr (o.1, vs), vs[k], by rw [List.getElem?_append_left (List.getElem?_eq_some_iff.mp hax).1]; exact hax, rfl, hw, hv, q3⟩
                  · exact tk_fk_grow l1 r1 (h9 z hz)
                · cases h
              · cases h
          · cases h
        · cases h
      · cases h
    · cases h
  · cases h
end TKH
