/-! ===== rk: a run is sound ===== -/
theorem rk_arr_ty {vals : List Value} {ads : List Nat} {cA : ClassId} {q : rk_D} {e : va_E} (h : rk_arr vals ads cA q e) : True := trivial
theorem rk_c.moved {u U : State} (hvm : u.vm.Alike U.vm) {vals : List Value} {ads : List Nat} {c : rk_H} {e : va_E} (h : rk_c u vals ads c e) : rk_c U vals ads c e := by
  rcases c with o | q
  · exact h
  · obtain ⟨cA, h1, h2, h3⟩ := h
    exact ⟨cA, arrOfT_moved hvm h1, h2.moved hvm, h3⟩
/-- the words that aren't of the tables' own kind -/
def rk_xok (xw : List Jvm.Cond) : Prop := ∀ w ∈ xw, (∃ a i b n d h, w = .fieldLinkNest a i b n d h) ∨ (∃ a i x h, w = .methodLinkNest a i x h) ∨ (∃ C, w = .arrayOver (.object C)) ∨ (∃ t, w = .arrayOver (.array t))
theorem rk_xw_warm {xw : List Jvm.Cond} (hxo : rk_xok xw) {s U : State} (hW : s.WarmedH U.vm) (h : ∀ w ∈ xw, va_Nw w s) : ∀ w ∈ xw, va_Nw w U := by
  intro w hw
  rcases hxo w hw with ⟨a, i, b, n, d, hh, rfl⟩ | ⟨a, i, x, hh, rfl⟩ | ⟨C, rfl⟩ | ⟨t, rfl⟩
  · exact va_Nw.warmF hW (h _ hw)
  · exact va_Nw.warmM hW (h _ hw)
  · exact va_AO.moved hW.alike (h _ hw)
  · exact va_AOA.moved hW.alike (h _ hw)
theorem rk_xw_same {xw : List Jvm.Cond} (hxo : rk_xok xw) {s U : State} (hv : s.vm = U.vm) (h : ∀ w ∈ xw, va_Nw w s) : ∀ w ∈ xw, va_Nw w U := by
  intro w hw
  rcases hxo w hw with ⟨a, i, b, n, d, hh, rfl⟩ | ⟨a, i, x, hh, rfl⟩ | ⟨C, rfl⟩ | ⟨t, rfl⟩
  · exact va_Nw.same rfl hv (h _ hw)
  · exact va_Nw.same rfl hv (h _ hw)
  · exact va_AO.moved (by rw [hv]; exact Vm.Alike.refl _) (h _ hw)
  · exact va_AOA.moved (by rw [hv]; exact Vm.Alike.refl _) (h _ hw)
/-- what else is known of old cells: by the symbols, of a heap, outside what may be written -/
abbrev rk_XT : Type := List Value → (Nat → Prop) → State → Heap → Prop
def rk_xtok (xt : rk_XT) : Prop := (∀ (vals k : List Value) (Ad : Nat → Prop) (U : State) (H : Heap), xt vals Ad U H → xt (vals ++ k) Ad U H) ∧ (∀ (vals : List Value) (Ad : Nat → Prop) (s U : State) (H : Heap), s.vm = U.vm → xt vals Ad s H → xt vals Ad U H) ∧ (∀ (vals : List Value) (Ad : Nat → Prop) (s U : State) (H : Heap), s.WarmedH U.vm → xt vals Ad s H → xt vals Ad U H) ∧ (∀ (vals : List Value) (Ad B : Nat → Prop) (U : State) (H H1 : Heap), xt vals Ad U H → (∀ a, a < H.size → ¬ Ad a → H1[a]? = H[a]?) → (∀ q, B q → Ad q) → xt vals B U H1)
def rk_Pre (D : va_G) (cl : List vw_C) (xw : List Jvm.Cond) (xt : rk_XT) (vals0 : List Value) (ws0 : va_W) (hp : List rk_H) (sz : Nat) (av : List Value) : Array Value → State → Prop := fun v U => v = av.toArray ∧ U.heap.size = sz ∧ va_P D cl ws0 U.heap ∧ va_K D cl [] U ∧ va_D (fun _ => True) ws0 ∧ rk_A2 (fun c q => rk_c U vals0 (ws0.map Prod.fst) c q.2) hp ws0 ∧ (∀ w ∈ xw, va_Nw w U) ∧ xt vals0 (va_A ws0 sz) U U.heap
def rk_ret (r : Option rk_V) (vals : List Value) (ads : List Nat) (oc : Outcome) : Prop := match r with
  | none => oc = .returned none
  | some a => ∃ v, rk_g vals ads a v ∧ oc = .returned (some v)
def rk_Post (D : va_G) (cl : List vw_C) (xs : List rk_X) (vals0 : List Value) (ads0 : List Nat) (Ad : Nat → Prop) : Array Value → State → Outcome → State → Prop := fun _ st oc t =>
  (∃ x ∈ xs, ∃ (vals : List Value) (ws : va_W), (∃ k, vals = vals0 ++ k) ∧ (∃ k, ws.map Prod.fst = ads0 ++ k) ∧ rk_E x.2.1 vals ∧ rk_A2 (fun c q => rk_c t vals (ws.map Prod.fst) c q.2) x.2.2.1 ws ∧ va_P D cl ws t.heap ∧ va_D Ad ws ∧ rk_ret x.1 vals (ws.map Prod.fst) oc) ∧ va_F Ad st t
theorem rk_blind {D : va_G} {cl : List vw_C} {xw : List Jvm.Cond} {xt : rk_XT} {vals0 : List Value} {ws0 : va_W} {hp : List rk_H} {sz : Nat} {av : List Value} (hxo : rk_xok xw) (hxt : rk_xtok xt) : FrameBlind (rk_Pre D cl xw xt vals0 ws0 hp sz av) := by
  intro a U g mk q
  obtain ⟨h1, h2, h3, h4, h5, h6, h7, h8⟩ := q
  exact ⟨h1, h2, h3, va_K.moved (u := U) (U := U.calling g mk a) (Vm.Alike.refl U.vm) h4, h5, h6.mono (fun _ _ h => h.moved (u := U) (U := U.calling g mk a) (Vm.Alike.refl U.vm)), rk_xw_same hxo (s := U) (U := U.calling g mk a) rfl h7, hxt.2.1 _ _ U (U.calling g mk a) _ rfl h8⟩
/-- what is known of a method by its number: its class's name, its own name, its bytes -/
abbrev rk_N : Type := String × MethodName × ByteArray
def rk_kok (tbl : List Jvm.Cond) (own : String) (r : Nat × Nat × Nat × Nat) : Prop := r.2.1 = 12 → Jvm.Cond.methodLink own r.1 arraycopyName ∈ tbl ∧ Jvm.Cond.native arraycopyName ∈ tbl ∧ Jvm.Cond.static arraycopyName ∈ tbl ∧ Jvm.Cond.initialized "java/lang/System" ∈ tbl
/-- what a call's link must be for the tables -/
def rk_cok (tbl xw : List Jvm.Cond) (MN : List rk_N) (P : List rk_M2) (own : String) (r : Nat × Nat × Nat × Nat) : Prop := match r.2.1 with
  | 5 => ∃ q, MN[r.2.2.1]? = some q ∧ Jvm.Cond.methodLink own r.1 q.2.1 ∈ tbl ∧ Jvm.Cond.instanceMethod q.2.1 ∈ tbl ∧ Jvm.Cond.selects q.1 q.2.1 q.2.1 ∈ tbl ∧ (parseMethodDescriptor q.2.1.desc).map (fun d => d.parameters.length) = some r.2.2.2
  | 6 => ∃ q host, MN[r.2.2.1]? = some q ∧ Jvm.Cond.methodLinkNest own r.1 q.2.1 host ∈ xw ∧ Jvm.Cond.instanceMethod q.2.1 ∈ tbl ∧ Jvm.Cond.selects q.1 q.2.1 q.2.1 ∈ tbl ∧ (parseMethodDescriptor q.2.1.desc).map (fun d => d.parameters.length) = some r.2.2.2
  | 7 => ∃ q, MN[r.2.2.1]? = some q ∧ Jvm.Cond.methodLink own r.1 q.2.1 ∈ tbl ∧ Jvm.Cond.static q.2.1 ∈ tbl ∧ (parseMethodDescriptor q.2.1.desc).map (fun d => d.parameters.length) = some r.2.2.2
  | 8 => ∃ q host, MN[r.2.2.1]? = some q ∧ Jvm.Cond.methodLinkNest own r.1 q.2.1 host ∈ xw ∧ Jvm.Cond.static q.2.1 ∈ tbl ∧ (parseMethodDescriptor q.2.1.desc).map (fun d => d.parameters.length) = some r.2.2.2
  | 9 => ∃ q, MN[r.2.2.1]? = some q ∧ (∀ M, P[r.2.2.1]? = some M → M.2.2.2.2.1 = none) ∧ Jvm.Cond.methodLink own r.1 q.2.1 ∈ tbl ∧ Jvm.Cond.instanceMethod q.2.1 ∈ tbl ∧ q.2.1.name = "<init>" ∧ (parseMethodDescriptor q.2.1.desc).map (fun d => d.parameters.length) = some r.2.2.2
  | 10 => ∃ q host, MN[r.2.2.1]? = some q ∧ (∀ M, P[r.2.2.1]? = some M → M.2.2.2.2.1 = none) ∧ Jvm.Cond.methodLinkNest own r.1 q.2.1 host ∈ xw ∧ Jvm.Cond.instanceMethod q.2.1 ∈ tbl ∧ q.2.1.name = "<init>" ∧ (parseMethodDescriptor q.2.1.desc).map (fun d => d.parameters.length) = some r.2.2.2
  | 11 => Jvm.Cond.methodLink own r.1 objectInit ∈ tbl ∧ Jvm.Cond.instanceMethod objectInit ∈ tbl ∧ Jvm.Cond.code objectInit ⟨#[0xb1]⟩ 1 none ∈ tbl
  | _ => True
/-- what a method must be for the tables -/
def rk_mok (tbl xw : List Jvm.Cond) (cl : List vw_C) (MN : List rk_N) (P : List rk_M2) (mci : List Nat) (q : rk_N) (M : rk_M2) : Prop :=
  plainName q.2.1.cls = true ∧ q.2.1.cls = q.1 ∧ (q.2.1.cls ≠ "java/lang/invoke/MethodHandle" ∧ q.2.1.cls ≠ "java/lang/invoke/VarHandle") ∧ Jvm.Cond.code q.2.1 q.2.2 M.2.1 M.2.2.2.2.1 ∈ tbl ∧ Jvm.Cond.initialized q.2.1.cls ∈ tbl ∧ (∀ r ∈ M.1, decode q.2.2 r.1 = .ok r.2) ∧ (∀ r ∈ M.2.2.1, rk_lok tbl xw cl q.1 r ∧ rk_cok tbl xw MN P q.1 r ∧ rk_kok tbl q.1 r) ∧ ((∃ r ∈ M.2.2.1, r.2.1 = 2) → q.2.1.name = "<init>") ∧ (∀ r ∈ M.2.2.2.1, (∀ x, r.2 = .int x → Jvm.Cond.constant q.1 r.1 x ∈ tbl) ∧ (∀ x, r.2 = .long x → Jvm.Cond.constantLong q.1 r.1 x ∈ tbl))
/-- the whole of it -/
def rk_ok (tbl xw : List Jvm.Cond) (cl : List vw_C) (fty : rk_F) (cln : List String) (MN : List rk_N) (mci : List Nat) (P : List rk_M2) : Prop :=
  (∀ w ∈ tbl, goodWord w = true) ∧ rk_xok xw ∧ rk_clok tbl cl fty cln ∧ (Jvm.Cond.arrayClass .int ∈ tbl ∧ Jvm.Cond.arrayClass .byte ∈ tbl ∧ Jvm.Cond.arrayClass .long ∈ tbl) ∧ MN.length = P.length ∧ (∀ (f : Nat) (q : rk_N) (M : rk_M2), MN[f]? = some q → P[f]? = some M → rk_mok tbl xw cl MN P mci q M) ∧ (∀ (f ci : Nat) (q : rk_N) (k : vw_C), mci[f]? = some ci → MN[f]? = some q → cl[ci]? = some k → k.1 = q.1)
theorem rk_pop_ok {vals : List Value} {ads : List Nat} : ∀ (n : Nat) {acc sk as r : List rk_V} {va stk : List Value}, rk_pop n acc sk = some (as, r) → rk_A2 (rk_g vals ads) acc va → rk_A2 (rk_g vals ads) sk stk → ∃ (v2 r2 : List Value), rk_A2 (rk_g vals ads) as (v2 ++ va) ∧ rk_A2 (rk_g vals ads) r r2 ∧ stk = v2.reverse ++ r2 ∧ v2.length = n := by
  intro n
  induction n with
  | zero => intro acc sk as r va stk h ha hs; cases h; exact ⟨[], stk, by simpa using ha, hs, by simp, rfl⟩
  | succ n ih =>
    intro acc sk as r va stk h ha hs
    cases sk with
    | nil => cases h
    | cons a sk =>
      obtain ⟨v, k, rfl, hg, hs⟩ := hs.cons
      obtain ⟨v2, r2, h1, h2, rfl, h4⟩ := ih (show rk_pop n (a :: acc) sk = some (as, r) from h) (show rk_A2 (rk_g vals ads) (a :: acc) (v :: va) from ⟨hg, ha⟩) hs
      exact ⟨v2 ++ [v], r2, by simpa using h1, h2, by simp, by simp [h4]⟩
theorem rk_sum_ok {env : List rk_T} {vals : List Value} {ads : List Nat} (hE : rk_E env vals) : ∀ {r : List rk_V} {stk : List Value}, rk_A2 (rk_g vals ads) r stk → rk_sum env r = (stk.map fun v => v.category).sum := by
  intro r
  induction r with
  | nil => intro stk h; rw [h.nil]; rfl
  | cons a r ih =>
    intro stk h
    obtain ⟨v, k, rfl, hg, hs⟩ := h.cons
    simp [rk_sum, rk_cat_ok hE hg, ih hs]
theorem rk_fetch_mem {pc : Nat} {q : Instr × Nat} : ∀ {l : List (Nat × Instr × Nat)}, rk_fetch l pc = some q → (pc, q) ∈ l := by
  intro l
  induction l with
  | nil => intro h; cases h
  | cons r l ih =>
    intro h
    unfold rk_fetch at h
    split at h
    · next e => cases h; subst e; exact List.mem_cons_self
    · exact List.mem_cons_of_mem _ (ih h)
theorem rk_comb_ok {f : Nat × rk_S → Option rk_O} : ∀ {l : List (Nat × rk_S)} {o : rk_O}, rk_comb f l = some o → ∀ q ∈ l, ∃ o', f q = some o' ∧ o'.1 ≤ o.1 ∧ o'.2.1 ≤ o.2.1 ∧ ∀ x ∈ o'.2.2, x ∈ o.2.2 := by
  intro l
  induction l with
  | nil => intro o h q hq; cases hq
  | cons r l ih =>
    intro o h q hq
    unfold rk_comb at h
    split at h
    · next a b ha hb =>
      cases h
      rcases List.mem_cons.mp hq with rfl | hq
      · exact ⟨a, ha, Nat.le_max_left _ _, Nat.le_max_left _ _, fun x hx => List.mem_append_left _ hx⟩
      · obtain ⟨o', h1, h2, h3, h4⟩ := ih hb q hq
        exact ⟨o', h1, Nat.le_trans h2 (Nat.le_max_right _ _), Nat.le_trans h3 (Nat.le_max_right _ _), fun x hx => List.mem_append_right _ (h4 x hx)⟩
    · cases h
theorem rk_loop_ge {fty : rk_F} {cln : List String} {mci : List Nat} {call : Nat → List rk_V → List rk_T → List rk_H → Option rk_O} {ext : rk_Ext} {M : rk_M2} : ∀ {n : Nat} {q : Nat × rk_S} {o : rk_O}, rk_loop fty cln mci call ext M n q = some o → q.2.2.2.2.2.1 ≤ o.1 ∧ q.2.2.2.2.2.2 ≤ o.2.1 := by
  intro n q o h
  cases n with
  | zero => cases h
  | succ n =>
    unfold rk_loop at h
    split at h
    · cases h
    · split at h
      · split at h
        · cases h; exact ⟨Nat.le_refl _, Nat.le_refl _⟩
        · cases h
        · split at h
          · split at h
            · cases h; exact ⟨Nat.le_max_left _ _, Nat.le_max_left _ _⟩
            · cases h
          · cases h
      · cases h
theorem rk_args_ok {env : List rk_T} {vals : List Value} {ads : List Nat} (hE : rk_E env vals) : ∀ {as : List rk_V} {av : List Value} (i : Nat), rk_A2 (rk_g vals ads) as av → rk_Lo vals ads (rk_args env i as) (lv_args i av) := by
  intro as
  induction as with
  | nil => intro av i h; rw [h.nil]; trivial
  | cons a as ih =>
    intro av i h
    obtain ⟨v, k, rfl, hg, hs⟩ := h.cons
    refine ⟨⟨rfl, hg⟩, ?_⟩
    have e : i + rk_cat env a = if v.category = 2 then i + 2 else i + 1 := by
      rw [rk_cat_ok hE hg]
      rcases lv_cat v with q | q <;> simp [q]
    rw [e]
    exact ih _ hs
section RKB
variable {p : Program} {l : Launch} {e : Env} {R : Room} {s : State} {m : MethodId} {args : Array Value} {below : List Frame} {meth : Method} {c : Code} {Q : State → Prop} {cc : ByteArray} {D : va_G} {cl : List vw_C} {Ad : Nat → Prop} {nL : Nat} {vals0 : List Value} {ads0 : List Nat}
/-- behind a call: each end of the callee goes on in the caller -/
theorem rk_back {vals : List Value} {ws : va_W} {H : Heap} {locs : List Loc} {ls : Array Slot} {st0 rest : List Value} {lc : List (Nat × Value)} {env : List rk_T} {hp : List rk_H} {lo : List (Nat × rk_V)} {r : List rk_V} {o : rk_O} {pc nc ns : Nat} {res : List (Nat × rk_S)} {as : Array Value}
    (hA : ∀ q, s.heap.size ≤ q → Ad q) (hG : rk_G s D cl Ad vals0 ads0 vals ws H locs env hp) (hl : lv_has ls nL lc) (hL : rk_Lo vals (ws.map Prod.fst) lo lc) (hS : rk_A2 (rk_g vals (ws.map Prod.fst)) r rest)
    (hr : va_Run p l e R s m args below meth c H locs nc ns o.1 o.2.1 (F0 m pc ls st0) rest (rk_Post D cl o.2.2 vals (ws.map Prod.fst) (va_A ws H.size) as) (va_A ws H.size))
    (h : rk_after (some o) pc lo r nc ns = some res) (kk : ∀ q ∈ res, rk_W (rk_KW p l e R s m args below meth c Q) s D cl Ad nL vals0 ads0 q.1 q.2) : rk_KW p l e R s m args below meth c Q pc ls st0 H locs nc ns := by
  have hres : res = o.2.2.map (fun x => (pc + 3, (lo, x.1.toList ++ r, x.2.1, x.2.2.1, nc + o.1, ns + o.2.1))) := by
    unfold rk_after at h
    dsimp only at h
    split at h
    · cases h
    · exact (Option.some.inj h).symm
  subst hres
  have hsub : ∀ q, va_A ws H.size q → Ad q := by
    rintro q (⟨k, e1, hk⟩ | hq)
    · exact hG.2.2.2.1.2 k _ hk
    · exact hA q (Nat.le_trans hG.2.2.2.2.1.1 hq)
  intro T hT X
  obtain ⟨v, st₀, t, T', L, h0, X', hLf, e1, e2, ⟨⟨x, hxm, vals', ws', hv', ha', hE', hC', hP', hD', hret⟩, hF⟩, go⟩ := hr T hT X
  have hal : t.vm.Alike s.vm := by rw [← e2]; exact X'.warmed.alike.symm
  obtain ⟨-, -, -, -, h5, ⟨k6, h6⟩, k7, h7⟩ := id hG
  have hS1 : va_S Ad s.heap t.heap (locs ++ L) := by
    refine ⟨Nat.le_trans h5.1 (by rw [← h0]; exact hF.1), fun q hq hn => ?_, fun z hz => ?_⟩
    · rw [hF.2 q (by rw [h0]; exact Nat.lt_of_lt_of_le hq h5.1) (fun z => hn (hsub q z)), h0]
      exact h5.2.1 q hq hn
    · rcases List.mem_append.mp hz with z1 | z1
      · exact h5.2.2 z z1
      · exact hsub _ (hLf z z1)
  have hG1 : rk_G s D cl Ad vals0 ads0 vals' ws' t.heap (locs ++ L) x.2.1 x.2.2.1 := by
    obtain ⟨kv, rfl⟩ := hv'
    obtain ⟨ka, ha'⟩ := ha'
    exact ⟨hE', hC'.mono (fun _ _ h => h.moved hal), hP', hD'.weaken (fun _ _ _ z => hsub _ z), hS1, ⟨k6 ++ kv, by rw [h6, List.append_assoc]⟩, ⟨k7 ++ ka, by rw [ha', h7, List.append_assoc]⟩⟩
  have hL1 : rk_Lo vals' (ws'.map Prod.fst) lo lc := rk_A2.mono (fun _ _ h => ⟨h.1, h.2.grow hv' ha'⟩) hL
  have hS2 : rk_A2 (rk_g vals' (ws'.map Prod.fst)) (x.1.toList ++ r) (v.toList ++ rest) := by
    have hS3 : rk_A2 (rk_g vals' (ws'.map Prod.fst)) r rest := rk_A2.mono (fun _ _ h => h.grow hv' ha') hS
    cases hx1 : x.1 with
    | none =>
      rw [hx1] at hret
      have : v = none := Outcome.returned.inj hret
      subst this
      exact hS3
    | some a =>
      rw [hx1] at hret
      obtain ⟨w, hg, ew⟩ := hret
      have : v = some w := Outcome.returned.inj ew
      subst this
      exact ⟨hg, hS3⟩
  obtain ⟨t2, a1, b1⟩ := kk _ (List.mem_map.mpr ⟨x, hxm, rfl⟩) vals' ws' t.heap (locs ++ L) ls _ lc hG1 hl hL1 hS2 T' e1 X'
  exact ⟨t2, go t2 a1, b1⟩
end RKB
