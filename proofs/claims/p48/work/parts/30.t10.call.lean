/-! ===== tk: calls: what a method takes for granted, and what holds behind it ===== -/
/-- an end: what is returned, what is known, types of the references, facts -/
abbrev tk_X : Type := Option tk_V × tk_W × List Nat × tk_FA
/-- the ends, and what fields may be written: type, field -/
abbrev tk_O : Type := List tk_X × List (Nat × Nat)
abbrev tk_Ca : Type := Nat → List tk_V → tk_W → List Nat → tk_FA → Option tk_O
theorem tk_cl_moved {TY : tk_TT} {ro : Nat → Nat → Int → Prop} {ads tw : List Nat} {u U : State} (hvm : u.vm.Alike U.vm) {t : Nat} {e : va_E} (h : tk_cl TY ro ads tw u t e) : tk_cl TY ro ads tw U t e := by
  unfold tk_cl at h ⊢
  split at h
  · exact h
  · obtain ⟨cA, h1, h2, h3⟩ := h
    exact ⟨cA, arrOfT_moved hvm h1, h2.moved hvm, h3⟩
  · exact h
/-- what else is known of old cells -/
abbrev tk_XT : Type := (Nat → Prop) → State → Heap → Prop
def tk_xtok (xt : tk_XT) : Prop := (∀ (Ad : Nat → Prop) (s U : State) (H : Heap), s.vm = U.vm → xt Ad s H → xt Ad U H) ∧ (∀ (Ad : Nat → Prop) (s U : State) (H : Heap), s.WarmedH U.vm → xt Ad s H → xt Ad U H) ∧ (∀ (Ad B : Nat → Prop) (U : State) (H H1 : Heap), xt Ad U H → (∀ a, a < H.size → ¬ Ad a → H1[a]? = H[a]?) → (∀ q, B q → Ad q) → xt B U H1)
def tk_Pre (D : va_G) (cl : List vw_C) (xw : List Jvm.Cond) (xt : tk_XT) (TY : tk_TT) (ro : Nat → Nat → Int → Prop) (X : va_W → Prop) (ads tw : List Nat) (ws : va_W) (sz : Nat) (av : List Value) : Array Value → State → Prop := fun v U => v = av.toArray ∧ U.heap.size = sz ∧ va_P D cl ws U.heap ∧ va_K D cl [] U ∧ va_D (fun _ => True) ws ∧ rk_A2 (fun t (q : Nat × va_E) => tk_cl TY ro ads tw U t q.2) tw ws ∧ (∀ w ∈ xw, va_Nw w U) ∧ xt (va_A ws sz) U U.heap ∧ X ws
def tk_ret (r : Option tk_V) (vals : List Int) (rads : List Nat) (oc : Outcome) : Prop := match r with
  | none => oc = .returned none
  | some a => ∃ v, tk_g vals rads a v ∧ oc = .returned (some v)
def tk_Post (D : va_G) (cl : List vw_C) (TY : tk_TT) (ro : Nat → Nat → Int → Prop) (X : va_W → Prop) (ads tw : List Nat) (o : tk_O) (vals : List Int) (rads : List Nat) (ws : va_W) (Ad : Nat → Prop) : Array Value → State → Outcome → State → Prop := fun _ st oc t =>
  (∃ x ∈ o.1, ∃ (vals' : List Int) (rads' : List Nat) (ws' : va_W), (∃ k, vals' = vals ++ k) ∧ (∃ k, rads' = rads ++ k) ∧ tk_H x.2.1 vals' ∧ rk_A2 (fun t y => tk_ty ads tw t y) x.2.2.1 rads' ∧ ws'.map Prod.fst = ads ∧ rk_A2 (fun b (q : Nat × va_E) => tk_cl TY ro ads tw t b q.2) tw ws' ∧ va_P D cl ws' t.heap ∧ va_D Ad ws' ∧ (∀ q ∈ x.2.2.2, tk_fk vals' rads' ws' q) ∧ tk_ux TY X o.2 tw ws ws' ∧ tk_ret x.1 vals' rads' oc) ∧ va_F Ad st t
theorem tk_blind {D : va_G} {cl : List vw_C} {xw : List Jvm.Cond} {xt : tk_XT} {TY : tk_TT} {ro : Nat → Nat → Int → Prop} {X : va_W → Prop} {ads tw : List Nat} {ws : va_W} {sz : Nat} {av : List Value} (hxo : rk_xok xw) (hxt : tk_xtok xt) : FrameBlind (tk_Pre D cl xw xt TY ro X ads tw ws sz av) := by
  intro a U g mk q
  obtain ⟨h1, h2, h3, h4, h5, h6, h7, h8, h10⟩ := q
  exact ⟨h1, h2, h3, va_K.moved (u := U) (U := U.calling g mk a) (Vm.Alike.refl U.vm) h4, h5, h6.mono (fun _ _ h => tk_cl_moved (u := U) (U := U.calling g mk a) (Vm.Alike.refl U.vm) h), rk_xw_same hxo (s := U) (U := U.calling g mk a) rfl h7, hxt.1 _ U (U.calling g mk a) _ rfl h8, h10⟩
/-- what a state knows of the heap -/
def tk_hs (TY : tk_TT) (ro : Nat → Nat → Int → Prop) (X : va_W → Prop) (ads tw : List Nat) (s : State) (D : va_G) (cl : List vw_C) (Ad : Nat → Prop) (vals : List Int) (rads : List Nat) (H : Heap) (locs : List Loc) (rf : List Nat) (fa : tk_FA) (ws : va_W) : Prop := rk_A2 (fun t y => tk_ty ads tw t y) rf rads ∧ ws.map Prod.fst = ads ∧ rk_A2 (fun t (q : Nat × va_E) => tk_cl TY ro ads tw s t q.2) tw ws ∧ va_P D cl ws H ∧ va_D Ad ws ∧ va_S Ad s.heap H locs ∧ ∀ q ∈ fa, tk_fk vals rads ws q
section TKB
variable {p : Program} {l : Launch} {e : Env} {R : Room} {s : State} {m : MethodId} {args : Array Value} {below : List Frame} {meth : Method} {c : Code} {Q : State → Prop} {cc : ByteArray} {D : va_G} {cl : List vw_C} {Ad : Nat → Prop} {nL : Nat} {vals0 : List Int} {rads0 : List Nat}
variable {tbl xw : List Jvm.Cond} {xt : tk_XT} {TY : tk_TT} {ro : Nat → Nat → Int → Prop} {X : va_W → Prop} {ads tw : List Nat}
/-- behind a call: for each end of the callee, and any world as it may be there, the caller goes on -/
theorem tk_back {vals : List Int} {rads : List Nat} {ws : va_W} {H : Heap} {locs : List Loc} {ls : Array Slot} {st0 rest : List Value} {rf : List Nat} {fa : tk_FA} {o : tk_O} {pc : Nat} {as : Array Value}
    (hA : ∀ q, s.heap.size ≤ q → Ad q) (hR : tk_hs TY ro X ads tw s D cl Ad vals rads H locs rf fa ws)
    (hr : va_Run p l e R s m args below meth c H locs 0 0 0 0 (F0 m pc ls st0) rest (tk_Post D cl TY ro X ads tw o vals rads ws (va_A ws H.size) as) (va_A ws H.size))
    (kk : ∀ x ∈ o.1, ∀ (vals' : List Int) (rads' : List Nat) (ws' : va_W) (H' : Heap) (locs' : List Loc) (v : Option Value), (∃ k, vals' = vals ++ k) → (∃ k, rads' = rads ++ k) → tk_H x.2.1 vals' → tk_hs TY ro X ads tw s D cl Ad vals' rads' H' locs' x.2.2.1 x.2.2.2 ws' → tk_ux TY X o.2 tw ws ws' → tk_ret x.1 vals' rads' (.returned v) → rk_KW p l e R s m args below meth c Q (pc + 3) ls (v.toList ++ rest) H' locs' 0 0) : rk_KW p l e R s m args below meth c Q pc ls st0 H locs 0 0 := by
  obtain ⟨a1, a2, a3, a4, a5, a6, a7⟩ := hR
  have hsub : ∀ q, va_A ws H.size q → Ad q := by
    rintro q (⟨k, e1, hk⟩ | hq)
    · exact a5.2 k _ hk
    · exact hA q (Nat.le_trans a6.1 hq)
  intro T hT X
  obtain ⟨v, st₀, t, T', L, h0, X', hLf, e1, e2, ⟨⟨x, hxm, vals', rads', ws', b1, b2, b3, b4, b5, b6, b7, b8, b9, b10, b11⟩, hF⟩, go⟩ := hr T hT X
  have hal : t.vm.Alike s.vm := by rw [← e2]; exact X'.warmed.alike.symm
  have hS1 : va_S Ad s.heap t.heap (locs ++ L) := by
    refine ⟨Nat.le_trans a6.1 (by rw [← h0]; exact hF.1), fun q hq hn => ?_, fun z hz => ?_⟩
    · rw [hF.2 q (by rw [h0]; exact Nat.lt_of_lt_of_le hq a6.1) (fun z => hn (hsub q z)), h0]
      exact a6.2.1 q hq hn
    · rcases List.mem_append.mp hz with z1 | z1
      · exact a6.2.2 z z1
      · exact hsub _ (hLf z z1)
  obtain ⟨t2, c1, c2⟩ := kk x hxm vals' rads' ws' t.heap (locs ++ L) v b1 b2 b3 ⟨b4, b5, b6.mono (fun _ _ h => tk_cl_moved hal h), b7, b8.weaken (fun _ _ _ z => hsub _ z), hS1, b9⟩ b10 b11 T' e1 X'
  exact ⟨t2, go t2 c1, c2⟩
theorem tk_pre {vals : List Int} {rads : List Nat} {ws : va_W} {H : Heap} {locs : List Loc} {rf : List Nat} {fa : tk_FA} {av : List Value} (hxo : rk_xok xw) (hxw : ∀ w ∈ xw, va_Nw w s) (hxt : tk_xtok xt) (hXt : xt Ad s s.heap) (hA : ∀ q, s.heap.size ≤ q → Ad q) (hK : va_K D cl [] s) (hR : tk_hs TY ro X ads tw s D cl Ad vals rads H locs rf fa ws) (hXw : X ws) (U : State) (hU : U.heap = H) (hW : s.WarmedH U.vm) : tk_Pre D cl xw xt TY ro X ads tw ws H.size av av.toArray U := by
  obtain ⟨a1, a2, a3, a4, a5, a6, a7⟩ := hR
  obtain ⟨x1, x2, x3⟩ := hxt
  refine ⟨rfl, by rw [hU], by rw [hU]; exact a4, va_K.moved hW.alike hK, a5.weaken (fun _ _ _ _ => trivial), a3.mono (fun _ _ h => tk_cl_moved hW.alike h), rk_xw_warm hxo hW hxw, ?_, hXw⟩
  rw [hU]
  refine x2 _ _ _ _ hW (x3 _ _ _ _ _ hXt (fun a ha hn => a6.2.1 a ha hn) ?_)
  rintro q (⟨k, e1, hk⟩ | hq)
  · exact a5.2 k _ hk
  · exact hA q (Nat.le_trans a6.1 hq)
end TKB
/-- the cells are as their types say -/
def tk_ob (TY : tk_TT) (ro : Nat → Nat → Int → Prop) (ads tw : List Nat) (ws : va_W) : Prop := ∀ t y : Nat, tk_ty ads tw t y → ∃ (j : Nat) (e : va_E), ws[j]? = some (y, e) ∧ match TY.1[t]? with
  | some (.inl o) => ∃ vs : List Value, e = .inr (o.1, vs) ∧ vs.length = o.2.length ∧ ∀ (i : Nat) (f : tk_F) (v : Value), o.2[i]? = some f → vs[i]? = some v → tk_fv ro TY.2.1 ads tw t i f v
  | some (.inr q) => ∃ (cA : ClassId) (z : vp_A), e = .inl (cA, z) ∧ z.1 = q.2.1 ∧ ∀ i, i < q.2.1 → tk_fv ro TY.2.1 ads tw t i q.2.2 (tk_el z i)
  | none => True
theorem tk_ob_of {TY : tk_TT} {ro : Nat → Nat → Int → Prop} {ads tw : List Nat} {s : State} {ws : va_W} (h4 : ws.map Prod.fst = ads) (h5 : rk_A2 (fun t (q : Nat × va_E) => tk_cl TY ro ads tw s t q.2) tw ws) : tk_ob TY ro ads tw ws := by
  intro t y hty
  obtain ⟨j, e1, hw, hj, hc1⟩ := tk_cell h4 h5 hty
  refine ⟨j, e1, hw, ?_⟩
  unfold tk_cl at hc1
  cases hT : TY.1[t]? with
  | none => trivial
  | some k =>
    rw [hT] at hc1
    cases k with
    | inl o => exact hc1
    | inr q =>
      obtain ⟨cA, -, -, harr⟩ := hc1
      unfold tk_ar at harr
      dsimp only
      split at harr
      all_goals first
        | exact harr.elim
        | (obtain ⟨f, rfl, hf⟩ := harr
           exact ⟨cA, _, rfl, rfl, hf⟩)
/-- the calls are sound, d frames deep -/
def tk_SC (l : Launch) (D : va_G) (cl : List vw_C) (tbl xw : List Jvm.Cond) (xt : tk_XT) (MN : List rk_N) (P : List rk_M2) (TY : tk_TT) (ro : Nat → Nat → Int → Prop) (X : va_W → Prop) (ads tw : List Nat) (d : Nat) (call : tk_Ca) : Prop :=
  ∀ (f : Nat) (as : List tk_V) (w : tk_W) (rf : List Nat) (fa : tk_FA) (o : tk_O), call f as w rf fa = some o → ∀ (q : rk_N), MN[f]? = some q → ∃ M, P[f]? = some M ∧ M.2.1 ≤ 21 ∧ ∀ (vals : List Int) (rads : List Nat) (ws : va_W) (av : List Value) (sz : Nat), tk_H w vals → rk_A2 (fun t y => tk_ty ads tw t y) rf rads → rk_A2 (tk_g vals rads) as av → ws.map Prod.fst = ads → (∀ z ∈ fa, tk_fk vals rads ws z) → tk_ob TY ro ads tw ws →
    Met l q.2.1 (Jvm.Cond.code q.2.1 q.2.2 M.2.1 M.2.2.2.2.1 :: tbl) { frames := d, cells := 0, slots := 0, locals := 40 * d } (tk_Pre D cl xw xt TY ro X ads tw ws sz av) (tk_Post D cl TY ro X ads tw o vals rads ws (va_A ws sz)) 0 0 (va_A ws sz)
