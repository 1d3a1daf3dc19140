/-! ===== the law: its start, and the claim ===== -/
def lw_tx : String := " ice shore way beside walker worse hour better bears weighs at send step frost thaw any to in when loop end stop wet "
def lw_xt : tk_XT := fun Ad U H => ∃ a v, sk_X a v Ad U H ∧ vk_R "GooseIceModel" 189 lw_tx a U
theorem lw_xtok : tk_xtok lw_xt := by
  refine ⟨?_, ?_, ?_⟩
  · rintro Ad s U H hv ⟨a, v, h1, h2⟩
    exact ⟨a, v, h1.moved (by rw [hv]; exact Vm.Alike.refl _), vk_R.same hv.symm h2⟩
  · rintro Ad s U H hW ⟨a, v, h1, h2⟩
    exact ⟨a, v, h1.moved hW.alike, vk_R.warm hW h2⟩
  · rintro Ad B U H H1 ⟨a, v, h1, h2⟩ hq hAB
    exact ⟨a, v, (h1.kept hq).narrow hAB, h2⟩
theorem lw_hst : ∀ (Ad : Nat → Prop) (U : State) (H : Heap), lw_xt Ad U H → ∃ pl v tx, sk_X pl v Ad U H ∧ vk_R "GooseIceModel" 189 tx pl U := fun _ _ _ ⟨a, v, h1, h2⟩ => ⟨a, v, _, h1, h2⟩
theorem lc_world {TY : tk_TT} {s : State} {vals : List Value} {ws : va_W} {tw : List Nat} {off : Nat} (hall : lc_all TY tw off gk_hp = true) (hC : rk_A2 (fun c (q : Nat × va_E) => rk_c s vals (ws.map Prod.fst) c q.2) gk_hp ws) {w1 : va_W} (h1 : ∀ j : Nat, j < tw.length → w1[j]? = ws[off + j]?) (hl : tw.length = w1.length) : rk_A2 (fun t (q : Nat × va_E) => tk_cl TY lc_ro (w1.map Prod.fst) tw s t q.2) tw w1 := by
  refine rk_A2_of hl (fun i t q ht hq => ?_)
  have hi : i < tw.length := (List.getElem?_eq_some_iff.mp ht).1
  have h := List.all_eq_true.mp hall i (List.mem_range.mpr hi)
  rw [ht] at h
  cases hc : gk_hp[off + i]? with
  | none => rw [hc] at h; cases h
  | some c =>
    rw [hc] at h
    have h : lc_c TY tw off t c = true := h
    obtain ⟨q2, k1, k2⟩ := hC.get hc
    rw [h1 i hi, k1] at hq
    cases hq
    refine lc_c_ok (ads := ws.map Prod.fst) (fun j hj => ?_) k2 h
    rw [List.getElem?_map, List.getElem?_map, h1 j hj]
theorem lc_len : gk_hp.length = 292 := by decide +kernel
/-- a reference that stands there at first -/
def lc_ref (j i : Nat) : Option Nat := match (gk_hp[j]? : Option rk_H) with
  | some (.inl o) => (match o.2[i]? with
    | some (.inr (.inl k)) => some k
    | _ => none)
  | some (.inr d) => if i < d.2.1 ∧ d.1 = .array .long then (match rk_look d.2.2.1 d.2.2.2 i with
    | .inr (.inl k) => some k
    | _ => none) else none
  | none => none
theorem lc_ref_at {s : State} {vals : List Value} {ws : va_W} (hC : rk_A2 (fun c (q : Nat × va_E) => rk_c s vals (ws.map Prod.fst) c q.2) gk_hp ws) {j m i : Nat} (h : lc_ref j i = some m) : lw_at ws (j, i) = (ws[m]?).map (fun q => Value.ref q.1) := by
  have e : (ws[m]?).map (fun q => Value.ref q.1) = ((ws.map Prod.fst)[m]?).map Value.ref := by
    rw [List.getElem?_map, Option.map_map]
    rfl
  rw [e]
  unfold lc_ref at h
  unfold lw_at
  dsimp only
  split at h
  · next o ho =>
    obtain ⟨q, k1, k2⟩ := hC.get ho
    rw [k1]
    obtain ⟨vs, e1, hvs⟩ := k2
    split at h
    · next x' hx =>
      cases h
      obtain ⟨v, g1, g2⟩ := hvs.get hx
      obtain ⟨y, g3, g4⟩ := (show ∃ y, (ws.map Prod.fst)[m]? = some y ∧ v = .ref y from g2)
      show tk_pos q.2 i = _
      rw [e1]
      show vs[i]? = _
      rw [g1, g3, g4]
      rfl
    · cases h
  · next d hd =>
    obtain ⟨q, k1, k2⟩ := hC.get hd
    rw [k1]
    obtain ⟨cA, -, -, k3⟩ := k2
    split at h
    · next hc =>
      split at h
      · next x' hx =>
        cases h
        unfold rk_arr at k3
        rw [hc.2] at k3
        obtain ⟨f, e1, hf⟩ := k3
        have g := hf i
        rw [hx] at g
        obtain ⟨y, g3, g4⟩ := (show ∃ y, (ws.map Prod.fst)[m]? = some y ∧ va_rf (f i) = .ref y from g)
        show tk_pos q.2 i = _
        rw [e1]
        show (if i < d.2.1 then some (va_rf (f i)) else none) = _
        rw [if_pos hc.1, g3, g4]
        rfl
      · cases h
    · cases h
  · cases h
theorem lc_gs : ∀ z ∈ gs_L, lc_ref z.1 z.2.1 = some z.2.2 ∧ z.1 < 270 ∧ z.2.2 < 270 := by decide +kernel
/-- a long that stands there at first -/
def lc_lng (j i : Nat) : Option Int64 := match (gk_hp[j]? : Option rk_H) with
  | some (.inl _) => none
  | some (.inr d) => if i < d.2.1 ∧ d.1 = .long then (match rk_look d.2.2.1 d.2.2.2 i with
    | .inl (.long x) => some x
    | _ => none) else none
  | none => none
theorem lc_lng_at {s : State} {vals : List Value} {ws : va_W} (hC : rk_A2 (fun c (q : Nat × va_E) => rk_c s vals (ws.map Prod.fst) c q.2) gk_hp ws) {j i : Nat} {x : Int64} (h : lc_lng j i = some x) : lw_at ws (j, i) = some (.long x) := by
  unfold lc_lng at h
  unfold lw_at
  dsimp only
  split at h
  · cases h
  · next d hd =>
    obtain ⟨q, k1, k2⟩ := hC.get hd
    rw [k1]
    obtain ⟨cA, -, -, k3⟩ := k2
    split at h
    · next hc =>
      split at h
      · next x' hx =>
        cases h
        unfold rk_arr at k3
        rw [hc.2] at k3
        obtain ⟨f, e1, hf⟩ := k3
        have g := hf i
        rw [hx] at g
        have g : Value.long (f i) = .long x := g
        show tk_pos q.2 i = _
        rw [e1]
        show (if i < d.2.1 then some (Value.long (f i)) else none) = _
        rw [if_pos hc.1, g]
      · cases h
    · cases h
  · cases h
theorem lc_rw {k : Nat} {w : List Nat} (h : sp_KW[k]? = some w) : lc_lng 11 k = some (Int64.ofNat (sp_cd w)) := by
  have hk : k < 23 := (List.getElem?_eq_some_iff.mp h).1
  have key := List.all_eq_true.mp (show (List.range 23).all (fun k => match sp_KW[k]? with
    | some w => decide (lc_lng 11 k = some (Int64.ofNat (sp_cd w)))
    | none => true) = true from by decide +kernel) k (List.mem_range.mpr hk)
  rw [h] at key
  exact of_decide_eq_true key
/-- an int that stands there at first -/
def lc_lit (j i : Nat) : Option Int32 := match (gk_hp[j]? : Option rk_H) with
  | some (.inl o) => (match o.2[i]? with
    | some (.inl (.int x)) => some x
    | _ => none)
  | some (.inr d) => if i < d.2.1 ∧ d.1 = .int then (match rk_look d.2.2.1 d.2.2.2 i with
    | .inl (.int x) => some x
    | _ => none) else none
  | none => none
theorem lc_lit_at {s : State} {vals : List Value} {ws : va_W} (hC : rk_A2 (fun c (q : Nat × va_E) => rk_c s vals (ws.map Prod.fst) c q.2) gk_hp ws) {j k i : Nat} {x : Int32} (h : lc_lit j i = some x) {w1 : va_W} (hw : w1[k]? = ws[j]?) : lw_at w1 (k, i) = some (.int x) := by
  unfold lc_lit at h
  unfold lw_at
  dsimp only
  rw [hw]
  split at h
  · next o ho =>
    obtain ⟨q, k1, k2⟩ := hC.get ho
    rw [k1]
    obtain ⟨vs, e1, hvs⟩ := k2
    split at h
    · next x' hx =>
      cases h
      obtain ⟨v, g1, g2⟩ := hvs.get hx
      have g2 : v = .int x := g2
      show tk_pos q.2 i = _
      rw [e1]
      show vs[i]? = _
      rw [g1, g2]
    · cases h
  · next d hd =>
    obtain ⟨q, k1, k2⟩ := hC.get hd
    rw [k1]
    obtain ⟨cA, -, -, k3⟩ := k2
    split at h
    · next hc =>
      split at h
      · next x' hx =>
        cases h
        unfold rk_arr at k3
        rw [hc.2] at k3
        obtain ⟨f, e1, hf⟩ := k3
        have g := hf i
        rw [hx] at g
        have g : Value.int (f i) = .int x := g
        show tk_pos q.2 i = _
        rw [e1]
        show (if i < d.2.1 then some (Value.int (f i)) else none) = _
        rw [if_pos hc.1, g]
      · cases h
    · cases h
  · cases h
theorem lc_l2 : ∀ i, i < 72 → lc_lng 272 i = some 0 := by decide +kernel
theorem lc_nC {f : Nat → Int64} : sp_nC f [] := ⟨fun i L h => (by
  rw [List.getElem?_nil] at h
  cases h), fun L h => absurd h List.not_mem_nil⟩
theorem lc_nM {f : Nat → Int64} : sp_nM f [] := ⟨fun i L h => (by
  rw [List.getElem?_nil] at h
  cases h), fun L h => absurd h List.not_mem_nil⟩
theorem lc_WR {ads : List Nat} {U : State} {wc wm : va_W} {h : Nat → Int32} (h5 : rk_A2 (fun b (q : Nat × va_E) => tk_cl gc_TY lc_ro ads lw_twC U b q.2) lw_twC wc) (hC : ∀ {j i : Nat} {x : Int32}, j < 270 → lc_lit j i = some x → lw_at wc (j, i) = some (.int x)) (hM : ∀ {j i : Nat} {x : Int32}, j < 22 → lc_lit (270 + j) i = some x → lw_at wm (j, i) = some (.int x)) (hh : ∀ i, i < 900 → lw_at wm (6, i) = some (.int (h i))) (hb : ∀ i, i < 72 → lw_at wm (2, i) = some (.long 0)) : WR wc wm := by
  have hV := cw_in h5
  have lit : ∀ {j i : Nat} {x : Int32}, (j, i) ∈ cw_LO → j < 270 → lc_lit j i = some x → cg wc j i = x := fun {j i x} hz hj hl => sv_inj (hV.1 (j, i) hz) (hC hj hl)
  have gd : ∀ {o : Option Int32}, o.isSome = true → o = some (o.getD 0) := fun {o} ho => by
    cases o with
    | none => cases ho
    | some x => rfl
  have m0 : ∀ k ∈ mw_G, (lc_lit (270 + 0) k).isSome = true := by decide +kernel
  have mi : ∀ i ∈ mw_I, (lc_lit (270 + 1) i).isSome = true := by decide +kernel
  have e92 : cg wc 9 2 = 0 := lit (by decide) (by decide) (show lc_lit 9 2 = some 0 by decide +kernel)
  have e910 : cg wc 9 10 = -1 := lit (by decide) (by decide) (show lc_lit 9 10 = some (-1) by decide +kernel)
  have e911 : cg wc 9 11 = -1 := lit (by decide) (by decide) (show lc_lit 9 11 = some (-1) by decide +kernel)
  have e13 : cg wc 0 13 = 0 := lit (by decide) (by decide) (show lc_lit 0 13 = some 0 by decide +kernel)
  have e158 : cg wc 15 8 = 0 := lit (by decide) (by decide) (show lc_lit 15 8 = some 0 by decide +kernel)
  have e267 : cg wc 26 7 = 0 := lit (by decide) (by decide) (show lc_lit 26 7 = some 0 by decide +kernel)
  have e347 : cg wc 34 7 = 0 := lit (by decide) (by decide) (show lc_lit 34 7 = some 0 by decide +kernel)
  have g10 : (lc_lit (270 + 0) 10).getD 0 = 0 := by decide +kernel
  have g16 : (lc_lit (270 + 0) 16).getD 0 = -1 := by decide +kernel
  have g17 : (lc_lit (270 + 0) 17).getD 0 = -1 := by decide +kernel
  have g42 : (lc_lit (270 + 0) 42).getD 0 = 0 := by decide +kernel
  have a0 : (lc_lit (270 + 1) 0).getD 0 = 0 := by decide +kernel
  have a1 : (lc_lit (270 + 1) 1).getD 0 = 0 := by decide +kernel
  have a6 : (lc_lit (270 + 1) 6).getD 0 = -1 := by decide +kernel
  refine ⟨cg wc, ca wc, cb wc, fun k => (lc_lit (270 + 0) k).getD 0, fun t i => if t = 6 then h i else (lc_lit (270 + t) i).getD 0, fun _ _ => 0, hV, ⟨fun k hk => hM (j := 0) (by decide) (gd (m0 k hk)), fun i hi => hh i hi, fun i hi => hM (j := 1) (by decide) (gd (mi i hi)), fun i hi => hb i hi⟩, ⟨e92.trans g10.symm, fun i hi hw => ?_⟩, ⟨e910.trans g16.symm, e911.trans g17.symm⟩, e13.trans g42.symm, ⟨⟨[], [], ⟨Nat.zero_le _, Nat.zero_le _⟩, ⟨e158, e267, lc_nC, lc_nC⟩, a0, a1, lc_nM, lc_nM⟩, fun e => ?_, fun e => ?_⟩, fun m hm hw => ?_⟩
  · rw [e92] at hw
    have : (0 : Int32).toInt = 0 := by decide
    omega
  · have e : cg wc 34 7 = 1 := e
    rw [e347] at e
    exact absurd e (by decide)
  · have e : (0 : Int) ≤ ((lc_lit (270 + 1) 6).getD 0).toInt := e
    rw [a6] at e
    exact absurd e (by decide)
  · rw [e13] at hw
    have : (0 : Int32).toInt = 0 := by decide
    omega
/-- a reference that stands there at first, of any row of objects -/
def lc_refo (j i : Nat) : Option Nat := match (gk_hp[j]? : Option rk_H) with
  | some (.inl o) => (match o.2[i]? with
    | some (.inr (.inl k)) => some k
    | _ => none)
  | some (.inr d) => if i < d.2.1 ∧ d.1 = .object "GooseIce$Lake" then (match rk_look d.2.2.1 d.2.2.2 i with
    | .inr (.inl k) => some k
    | _ => none) else none
  | none => none
theorem lc_refo_at {s : State} {vals : List Value} {ws : va_W} (hC : rk_A2 (fun c (q : Nat × va_E) => rk_c s vals (ws.map Prod.fst) c q.2) gk_hp ws) {j m i : Nat} (h : lc_refo j i = some m) : lw_at ws (j, i) = (ws[m]?).map (fun q => Value.ref q.1) := by
  have e : (ws[m]?).map (fun q => Value.ref q.1) = ((ws.map Prod.fst)[m]?).map Value.ref := by
    rw [List.getElem?_map, Option.map_map]
    rfl
  rw [e]
  unfold lc_refo at h
  unfold lw_at
  dsimp only
  split at h
  · next o ho =>
    obtain ⟨q, k1, k2⟩ := hC.get ho
    rw [k1]
    obtain ⟨vs, e1, hvs⟩ := k2
    split at h
    · next x' hx =>
      cases h
      obtain ⟨v, g1, g2⟩ := hvs.get hx
      obtain ⟨y, g3, g4⟩ := (show ∃ y, (ws.map Prod.fst)[m]? = some y ∧ v = .ref y from g2)
      show tk_pos q.2 i = _
      rw [e1]
      show vs[i]? = _
      rw [g1, g3, g4]
      rfl
    · cases h
  · next d hd =>
    obtain ⟨q, k1, k2⟩ := hC.get hd
    rw [k1]
    obtain ⟨cA, -, -, k3⟩ := k2
    split at h
    · next hc =>
      split at h
      · next x' hx =>
        cases h
        unfold rk_arr at k3
        rw [hc.2] at k3
        obtain ⟨f, e1, hf⟩ := k3
        have g := hf i
        rw [hx] at g
        obtain ⟨y, g3, g4⟩ := (show ∃ y, (ws.map Prod.fst)[m]? = some y ∧ va_rf (f i) = .ref y from g)
        show tk_pos q.2 i = _
        rw [e1]
        show (if i < d.2.1 then some (va_rf (f i)) else none) = _
        rw [if_pos hc.1, g3, g4]
        rfl
      · cases h
    · cases h
  · cases h
theorem lc_gx : ∀ z ∈ gx_L, lc_refo z.1 z.2.1 = some z.2.2 ∧ z.1 < 270 ∧ z.2.2 < 270 := by decide +kernel
def gk_tm (i : Nat) : Term := Term.string "GooseIce$Reader" 26
theorem gk_env_ok {b L : Nat} {xs : Nat → Int32} {a : Nat} {lo hi : Int} (h1 : lo ≤ (Int32.ofNat L).toInt) (h2 : (Int32.ofNat L).toInt ≤ hi) : rk_E (gk_env lo hi) (rk_v0 b L xs ++ [.ref a]) := by
  have hi0 : ∀ x : Int32, rk_tok (0, -2147483648, 2147483647) (.int x) := fun x => Or.inl ⟨rfl, x, rfl, Int32.le_toInt x, Int32.toInt_le x⟩
  exact ⟨hi0 _, hi0 _, hi0 _, hi0 _, hi0 _, hi0 _, Or.inr (Or.inr ⟨rfl, b, rfl⟩), Or.inl ⟨rfl, _, rfl, h1, h2⟩, Or.inr (Or.inr ⟨rfl, a, rfl⟩), trivial⟩
set_option maxHeartbeats 8000000 in
set_option maxRecDepth 100000 in
theorem whole_start {p : Program} {e : Env} {s : State} {m : MethodId} {below : List Frame} {meth : Method} {c : Code} (l : Launch) (hflags : l.flags = flags0) {b L : Nat} {xs : Nat → Int32} (hL : L ≤ 3072) (C0 : lw_At p s m meth c b L xs) : W p l e room_1 s m #[Value.ref b] below meth c s.heap [] 0 0 (lw_Z below #[Value.ref b] s) (entryFrame m ([Value.ref b] : List Value).toArray 4) := by
  obtain ⟨hx, hb, hr, hml, hown, hts0, hX, hbl, hlocks, hgv⟩ := id C0
  have hts : ∀ w ∈ gk_tbl, w.before #[Value.ref b] s = true := fun w hw => hts0 w (List.mem_filter.mp hw).1
  have hxw : ∀ w ∈ gk_xw, va_Nw w s := by
    intro w hw
    have h := hts0 w (List.mem_filter.mp hw).1
    rcases gk_xok w hw with ⟨_, _, _, _, _, _, rfl⟩ | ⟨_, _, _, _, rfl⟩ | ⟨C, rfl⟩ | ⟨t, rfl⟩
    · exact va_Nw.of rfl h
    · exact va_Nw.of rfl h
    · exact va_AO.of h
    · exact va_AOA.of h
  have h0 : ∀ k : Nat, ∃ z : ClassId × (Nat → Nat), ∀ q : vw_C, gk_cl[k]? = some q → u_Kn s q.1 q.2.1 q.2.2 z.1 z.2 := by
    intro k
    cases hq : gk_cl[k]? with
    | none => exact ⟨((0 : Nat), fun _ => 0), fun q h => by cases h⟩
    | some q =>
      obtain ⟨cC, iS, hKn⟩ := u_known (C := q.1) (T := q.2.1) (N := q.2.2) (n := q.2.2) hts (gk_clok k q hq).1 (hts _ (gk_inst q (List.mem_of_getElem? hq)))
      exact ⟨(cC, iS), fun q' h => by cases h; exact hKn⟩
  obtain ⟨z, hz⟩ := Classical.axiomOfChoice h0
  have hK : va_K (fun k => (z k).1, fun k => (z k).2) gk_cl [] s := ⟨fun k q hq => hz k q hq, fun k q hq => by cases hq⟩
  have hA0 : ∀ q : Nat, q < s.heap.size → ¬ gk_A s q := fun q hq => Nat.not_le.mpr hq
  -- the class's one text, by the Statement's own words
  have hs := flat_of_before _ hgv
  have hall : ∀ j : Nat, j < 115 → (Cond.eq (.elem (.field (gk_tm 0) "java/lang/String" "value" "[B") (.int (Int32.ofNat j))) (.int (sg_b.getD j 0))) ∈ flatC (Jvm.Cond.and given_1 narrow_1) := fun j hj => of_decide_eq_true (List.all_eq_true.mp (show (List.range 115).all (fun j => decide ((Cond.eq (.elem (.field (gk_tm 0) "java/lang/String" "value" "[B") (.int (Int32.ofNat j))) (.int (sg_b.getD j 0))) ∈ flatC (Jvm.Cond.and given_1 narrow_1))) = true from by decide +kernel) j (List.mem_range.mpr hj))
  obtain ⟨adK, adV, hSt, hEv⟩ := vk_Sof (args := #[Value.ref b]) (s := s) (N := 1) (tm := gk_tm) (len := [115]) (byt := [sg_b]) (A := gk_A s)
    (fun i hi => by rcases (show i = 0 by omega) with rfl; decide)
    (fun i hi => by rcases (show i = 0 by omega) with rfl; exact hs _ (by decide +kernel))
    (fun i hi => by rcases (show i = 0 by omega) with rfl; exact hs _ (by decide +kernel))
    (fun i hi => by rcases (show i = 0 by omega) with rfl; exact hs _ (by decide +kernel))
    (fun i hi => by rcases (show i = 0 by omega) with rfl; exact hs _ (by decide +kernel))
    (fun i hi j hj => by rcases (show i = 0 by omega) with rfl; exact hs _ (hall j hj))
    (fun i j hi hj hij => absurd (show i = j by omega) hij) hA0
  obtain ⟨q1, q2, q3, q4⟩ := hSt.1 0 (by decide)
  have hXs : sg_X (adK 0) (adV 0) (gk_A s) s s.heap := ⟨q1, q2, q3, q4, va_Zof (hts0 (.laysStatic "java/lang/String" "COMPACT_STRINGS" "Z") (by decide +kernel)) (hts0 (.initialized "java/lang/String") (by decide +kernel)) (va_eqi (hs (.eq (.static "java/lang/String" "COMPACT_STRINGS" "Z") (.int 1)) (by decide +kernel))) hA0, va_Zqof (hts0 (.laysStatic "jdk/internal/util/Preconditions" "SIOOBE_FORMATTER" "Ljava/util/function/BiFunction;") (by decide +kernel)) (hts0 (.initialized "jdk/internal/util/Preconditions") (by decide +kernel)) (hs (.isRef (.static "jdk/internal/util/Preconditions" "SIOOBE_FORMATTER" "Ljava/util/function/BiFunction;")) (by decide +kernel)) hA0⟩
  have hXt : gk_xt (rk_v0 b L xs ++ [.ref (adK 0)]) (gk_A s) s s.heap := ⟨adK 0, adV 0, rfl, hXs, vk_R.of (hts0 (.stringRef "GooseIce$Reader" 26 sg_t) (by decide +kernel)) (hEv 0 (by decide))⟩
  have hF : rk_Fr s m #[Value.ref b] meth (fun k => (z k).1, fun k => (z k).2) gk_cl (gk_A s) gk_tbl gk_xw gk_fty gk_cln "GooseIceLaw" gk_lk12 gk_lcs := ⟨hts, hxw, hown, hK, fun _ h => h, gk_clok, fun r hr => (gk_lkok12 r hr).1, (by rintro ⟨r, hr, h2⟩; exact absurd (List.all_eq_true.mp (show gk_lk12.all (fun r => !(r.2.1 == 2)) = true by decide +kernel) r hr) (by simp [h2])), gk_rok.2.2.2.1, List.forall_mem_cons.mpr ⟨⟨fun x hx => (by cases hx), fun x hx => (by cases hx; exact rk_mt 2475 (by decide +kernel) rfl)⟩, fun _ h => absurd h List.not_mem_nil⟩⟩
  have hLs : L < 2147483648 := by omega
  have hLn : (Int32.ofNat L).toInt = L := nI_toInt (n := L) hLs
  have hlaw := fun (pc : Nat) (ins : Instr) (len : Nat) (st : rk_S) (res : List (Nat × rk_S)) (a1 : decode code pc = .ok (ins, len)) (a2 : rk_len ins len = true) (a3 : rk_lawx pc ins st = some res) (_ : ∀ q ∈ res, q.2.2.2.2.2.1 ≤ room_1.cells ∧ q.2.2.2.2.2.2 ≤ room_1.slots) (a5 : ∀ q ∈ res, rk_W (gk_K p l e s m below meth c b) s (fun k => (z k).1, fun k => (z k).2) gk_cl (gk_A s) 4 (rk_v0 b L xs ++ [.ref (adK 0)]) [] q.1 q.2) => rk_lawx_ok2 (p := p) (l := l) (e := e) (R := room_1) (s := s) (m := m) (args := #[Value.ref b]) (below := below) (meth := meth) (c := c) (Q := lw_Z below #[Value.ref b] s) (cc := code) (D := (fun k => (z k).1, fun k => (z k).2)) (cl := gk_cl) (Ad := gk_A s) (nL := 4) (ads0 := []) (vals0 := rk_v0 b L xs ++ [.ref (adK 0)]) ⟨_, rfl⟩ hx hb hX hbl (Nat.not_le.mpr hbl) hLs pc ins len st res a1 a2 a3 a5
  have hl := lv_entry ([Value.ref b] : List Value) (n := 4) (Nat.le_of_ble_eq_true rfl)
  rw [lg_entry_eq]
  have go : ∀ (lo hi : Int), lo ≤ (L : Int) → (L : Int) ≤ hi → rk_W (gk_K p l e s m below meth c b) s (fun k => (z k).1, fun k => (z k).2) gk_cl (gk_A s) 4 (rk_v0 b L xs ++ [.ref (adK 0)]) [] (gk_q0 lo hi).1 (gk_q0 lo hi).2 → W p l e room_1 s m #[Value.ref b] below meth c s.heap [] 0 0 (lw_Z below #[Value.ref b] s) (F0 m 0 (lg_sl ([Value.ref b] : List Value) ++ List.replicate (4 - (lg_sl ([Value.ref b] : List Value)).length) Slot.unset).toArray []) := by
    intro lo hi h1 h2 hw
    exact hw (rk_v0 b L xs ++ [Value.ref (adK 0)]) [] s.heap [] _ [] _ ⟨gk_env_ok (b := b) (L := L) (xs := xs) (a := adK 0) (lo := lo) (hi := hi) (by rw [hLn]; exact h1) (by rw [hLn]; exact h2), trivial, (fun k q hq => by cases hq), ⟨fun i j p q hp => (by cases hp), fun k q hq => (by cases hq)⟩, va_S.rf, ⟨[], by simp⟩, ⟨[], rfl⟩⟩ hl ⟨⟨rfl, rfl⟩, trivial⟩ trivial
  have hstp : ∀ (at_ : Nat) (S : rk_S), rk_W (gk_K p l e s m below meth c b) s (fun k => (z k).1, fun k => (z k).2) gk_cl (gk_A s) 4 (rk_v0 b L xs ++ [.ref (adK 0)]) [] at_ S → ∀ {li : List (Nat × Instr × Nat)} {q : Nat × rk_S}, (∀ r ∈ li, decode code r.1 = .ok r.2) → gk_go (gk_stop at_ S) li q = true → rk_W (gk_K p l e s m below meth c b) s (fun k => (z k).1, fun k => (z k).2) gk_cl (gk_A s) 4 (rk_v0 b L xs ++ [.ref (adK 0)]) [] q.1 q.2 := by
    intro at_ S hS li q hins h
    refine gk_w (D := (fun k => (z k).1, fun k => (z k).2)) (b := b) (vals0 := rk_v0 b L xs ++ [.ref (adK 0)]) hx hb hr hml hlocks hF hXt (ext := gk_stop at_ S) (fun pc ins len st res a1 a2 a3 a4 a5 => ?_) hins h
    unfold gk_stop at a3
    split at a3
    · next e1 =>
      split at a3
      · next e2 =>
        rw [gk_eqS_ok e2, e1]
        exact hS
      · cases a3
    · exact hlaw pc ins len st res a1 a2 a3 a4 a5
  have hXm : lw_xt (gk_A s) s s.heap := by
    obtain ⟨adK2, adV2, hSt2, hEv2⟩ := vk_Sof (args := #[Value.ref b]) (s := s) (N := 1) (tm := gk_tm2) (len := [117]) (byt := [sk_b]) (A := gk_A s)
      (fun i hi => by rcases (show i = 0 by omega) with rfl; decide)
      (fun i hi => by rcases (show i = 0 by omega) with rfl; exact hs _ (by decide +kernel))
      (fun i hi => by rcases (show i = 0 by omega) with rfl; exact hs _ (by decide +kernel))
      (fun i hi => by rcases (show i = 0 by omega) with rfl; exact hs _ (by decide +kernel))
      (fun i hi => by rcases (show i = 0 by omega) with rfl; exact hs _ (by decide +kernel))
      (fun i hi j hj => by rcases (show i = 0 by omega) with rfl; exact hs _ (lw_hall2 j hj))
      (fun i j hi hj hij => absurd (show i = j by omega) hij) hA0
    obtain ⟨r1, r2, r3, r4⟩ := hSt2.1 0 (by decide)
    exact ⟨adK2 0, adV2 0, ⟨r1, r2, r3, r4, va_Zof (hts0 (.laysStatic "java/lang/String" "COMPACT_STRINGS" "Z") (by decide +kernel)) (hts0 (.initialized "java/lang/String") (by decide +kernel)) (va_eqi (hs (.eq (.static "java/lang/String" "COMPACT_STRINGS" "Z") (.int 1)) (by decide +kernel))) hA0, va_Zqof (hts0 (.laysStatic "jdk/internal/util/Preconditions" "SIOOBE_FORMATTER" "Ljava/util/function/BiFunction;") (by decide +kernel)) (hts0 (.initialized "jdk/internal/util/Preconditions") (by decide +kernel)) (hs (.isRef (.static "jdk/internal/util/Preconditions" "SIOOBE_FORMATTER" "Ljava/util/function/BiFunction;")) (by decide +kernel)) hA0⟩, vk_R.of (hts0 (.stringRef "GooseIceModel" 189 lw_tx) (by decide +kernel)) (hEv2 0 (by decide))⟩
  refine go 0 3072 (by omega) (by omega) (hstp 16 (gk_S16 0 3072) ?_ gk_lai gk_pre)
  intro vals ws H locs ls stk lc hG hl2 hL2 hS2
  obtain ⟨hE, hC, hP, hD, hSS, hpv, -⟩ := hG
  have hC : rk_A2 (fun c (q : Nat × va_E) => rk_c s vals (ws.map Prod.fst) c q.2) gk_hp ws := hC
  have hlen : ws.length = 292 := by have := hC.len; rw [lc_len] at this; exact this.symm
  have hn := rk_A2.nil (show rk_A2 (rk_g vals (ws.map Prod.fst)) [] stk from hS2)
  subst hn
  -- the locals
  obtain ⟨q2, lc1, rfl, ⟨e2, x2, hx2, v2⟩, g1⟩ := rk_A2.cons (show rk_Lo vals (ws.map Prod.fst) [(2, .inr (.inl 270)), (1, .inr (.inl 0)), (0, .inr (.inr (.inl 6)))] lc from hL2)
  obtain ⟨q1, lc2, rfl, ⟨e1, x1, hx1, v1⟩, g2⟩ := g1.cons
  obtain ⟨q0, lc3, rfl, ⟨e0, v0⟩, g3⟩ := g2.cons
  have hn3 := g3.nil
  subst hn3
  have hb6 : vals[6]? = some (.ref b) := by
    obtain ⟨k0, hk0⟩ := hpv
    rw [hk0, List.append_assoc]
    rfl
  have v0 : vals[6]? = some q0.2 := v0
  rw [hb6] at v0
  have f2 : q2 = (2, .ref x2) := Prod.ext e2.symm v2
  have f1 : q1 = (1, .ref x1) := Prod.ext e1.symm v1
  have f0 : q0 = (0, .ref b) := Prod.ext e0.symm (Option.some.inj v0).symm
  subst f2 f1 f0
  refine lv_iconst (v := nI 0) hx hb lw_d16 (by decide) ?_
  refine lv_istore_n (nL := 4) (lv' := lw_lc b x1 x2 0) hx hb lw_d17 rfl hl2 (by decide) rfl (fun ls' hl' => ?_)
  have w1 : ∀ j : Nat, j < lw_twC.length → (ws.take 270)[j]? = ws[0 + j]? := fun j hj => by
    rw [lw_lenC] at hj
    rw [List.getElem?_take, if_pos hj, Nat.zero_add]
  have w2 : ∀ j : Nat, j < lw_twM.length → (ws.drop 270)[j]? = ws[270 + j]? := fun j hj => by rw [List.getElem?_drop]
  have cC := lc_world lc_C hC w1 (by rw [lw_lenC, List.length_take]; omega)
  have cM := lc_world lc_M hC w2 (by rw [List.length_drop, show lw_twM.length = 22 from List.length_range]; omega)
  have tk1 : ∀ {j : Nat} {q : Nat × va_E}, (ws.take 270)[j]? = some q → j < 270 ∧ ws[j]? = some q := fun {j q} h => by
    rw [List.getElem?_take] at h
    split at h
    · exact ⟨by assumption, h⟩
    · cases h
  have tk2 : ∀ {j : Nat} {q : Nat × va_E}, (ws.drop 270)[j]? = some q → ws[270 + j]? = some q := fun {j q} h => by
    rw [List.getElem?_drop] at h; exact h
  have hgs0 : gs (ws.take 270) := fun z hz => by
    obtain ⟨g1, g2, g3⟩ := lc_gs z hz
    have h := lc_ref_at hC g1
    unfold lw_at at h ⊢
    dsimp only at h ⊢
    rw [w1 z.1 (by rw [lw_lenC]; exact g2), w1 z.2.2 (by rw [lw_lenC]; exact g3), Nat.zero_add, Nat.zero_add]
    exact h
  have hrw0 : rwC (ws.take 270) := fun k w hw => by
    have h := lc_lng_at hC (j := 11) (lc_rw hw)
    unfold lw_at at h ⊢
    dsimp only at h ⊢
    rw [w1 11 (by rw [lw_lenC]; decide), Nat.zero_add]
    exact h
  have hgx0 : gx (ws.take 270) := fun z hz => by
    obtain ⟨g1, g2, g3⟩ := lc_gx z hz
    have h := lc_refo_at hC g1
    unfold lw_at at h ⊢
    dsimp only at h ⊢
    rw [w1 z.1 (by rw [lw_lenC]; exact g2), w1 z.2.2 (by rw [lw_lenC]; exact g3), Nat.zero_add, Nat.zero_add]
    exact h
  have hb0 : ∀ i, i < 72 → lw_at (ws.drop 270) (2, i) = some (.long 0) := fun i hi => by
    have h := lc_lng_at hC (j := 272) (lc_l2 i hi)
    unfold lw_at at h ⊢
    dsimp only at h ⊢
    rw [w2 2 (by rw [show lw_twM.length = 22 from List.length_range]; decide)]
    exact h
  have hWC : lw_T gc_TY h3_X ((ws.take 270).map Prod.fst) lw_twC s (fun k => (z k).1, fun k => (z k).2) (gk_A s) H (ws.take 270) := ⟨rfl, cC, fun k q hq => hP k q (tk1 hq).2, ⟨fun i j p q hp hq e => hD.1 i j p q (tk1 hp).2 (tk1 hq).2 e, fun k q hq => hD.2 k q (tk1 hq).2⟩, ⟨⟨⟨lc_gcX hC hD, hgs0⟩, hrw0⟩, hgx0⟩⟩
  have hWM : lw_T gn_TY (gn_X lw_twM) ((ws.drop 270).map Prod.fst) lw_twM s (fun k => (z k).1, fun k => (z k).2) (gk_A s) H (ws.drop 270) := ⟨rfl, cM, fun k q hq => hP _ q (tk2 hq), ⟨fun i j p q hp hq e => by have := hD.1 _ _ p q (tk2 hp) (tk2 hq) e; omega, fun k q hq => hD.2 _ q (tk2 hq)⟩, lc_gnX hC⟩
  have hdis : ∀ x ∈ (ws.drop 270).map Prod.fst, ¬ x ∈ (ws.take 270).map Prod.fst := by
    intro x h1 h2
    obtain ⟨qa, ha, ea⟩ := List.mem_map.mp h1
    obtain ⟨qb, hb', eb⟩ := List.mem_map.mp h2
    obtain ⟨i, hi⟩ := List.getElem?_of_mem ha
    obtain ⟨j, hj⟩ := List.getElem?_of_mem hb'
    have h3 := tk2 hi
    obtain ⟨h4, h5⟩ := tk1 hj
    have := hD.1 _ _ _ _ h3 h5 (by rw [ea, eb])
    omega
  have haC : tk_ty ((ws.take 270).map Prod.fst) lw_twC 0 x1 := ⟨0, by
    rw [List.getElem?_map] at hx1 ⊢
    rw [w1 0 (by rw [lw_lenC]; decide)]
    exact hx1, by decide +kernel⟩
  have haM : tk_ty ((ws.drop 270).map Prod.fst) lw_twM 0 x2 := ⟨0, by
    rw [List.getElem?_map] at hx2 ⊢
    rw [w2 0 (by decide)]
    exact hx2, by decide⟩
  have hlC : ((ws.take 270).map Prod.fst).length = lw_twC.length := by rw [List.length_map, lw_lenC, List.length_take]; omega
  have hlM : ((ws.drop 270).map Prod.fst).length = lw_twM.length := by rw [List.length_map, show lw_twM.length = 22 from List.length_range, List.length_drop]; omega
  have hpC : ∀ {j i : Nat} {x : Int32}, j < 270 → lc_lit j i = some x → lw_at (ws.take 270) (j, i) = some (.int x) := fun {j i x} hj h => lc_lit_at hC (j := j) h (by rw [w1 j (by rw [lw_lenC]; exact hj), Nat.zero_add])
  have hpM : ∀ {j i : Nat} {x : Int32}, j < 22 → lc_lit (270 + j) i = some x → lw_at (ws.drop 270) (j, i) = some (.int x) := fun {j i x} hj h => lc_lit_at hC (j := 270 + j) h (w2 j (by rw [show lw_twM.length = 22 from List.length_range]; exact hj))
  exact lw_loop lw_hst lw_xtok hXm hx hb hr hml hlocks hF hX hbl hL hdis haC haM hlC hlM (by decide) (by decide) 600 0 (by omega) (by omega) (.int 0) (.int 0) H locs ls' [] ⟨_, _, hWC, hWM, hSS, (by
    obtain ⟨h, hh⟩ := tp_f6 cM
    exact lc_WR cC hpC hpM hh hb0)⟩ hl' trivial
set_option maxHeartbeats 4000000 in
theorem lw_walk (l : Launch) (hflags : l.flags = flags0) (b : Addr) (xs : List Int32) : MetFree l x (headSpec (Jvm.Cond.code x code maxLocals ret :: tables_1) room_1) (lw_P b xs) (fun _ _ _ _ _ => True) lw_Q := by
  refine MetFree.of_bodyS (code := code) (maxLocals := maxLocals) (ret := ret) (by decide) ?_ ?_
  · intro args s m h hn
    obtain ⟨meth, c, h1, h2, h3, h4, h5, h6, -, -⟩ := Cond.code_spec hn (atoms_spec (ws := Jvm.Cond.code x code maxLocals ret :: tables_1) h _ List.mem_cons_self)
    exact ⟨meth, c, h1, h2, h3, h4, h5, h6⟩
  · intro p e s m args below meth c s₁ B hml0 hP _
    obtain ⟨rfl, hx, hbd, hgv⟩ := hP
    obtain ⟨scr, harrAt, hlist, hof, hsmall⟩ := hx
    obtain ⟨hcb, hkn, -, -⟩ := State.arrayAt?_spec harrAt
    have hown : s.vm.findClass R_law = some m.cls := findClass_of_methodNamed B.named
    have hts0 : ∀ c ∈ (Jvm.Cond.code x code maxLocals ret :: tables_1), c.before #[Value.ref b] s = true := atoms_spec (ws := Jvm.Cond.code x code maxLocals ret :: tables_1) B.pre
    have hts : ∀ w ∈ lw_tbl, w.before #[Value.ref b] s = true := k2_hts_sels lw_privs (fun w hw => hts0 w (List.mem_cons_of_mem _ hw)) lw_privs_ok
    have hml : c.maxLocals = 4 := B.maxLocals_eq (hts0 _ List.mem_cons_self)
    have X₀ : Stand p l e room_1 s m #[Value.ref b] below meth c s₁ [] 0 0 := Stand.of_body B
    have hh0 : s₁.heap = s.heap := by rw [B.state]; rfl
    have hsz : scr.slots.size = xs.length := by rw [← Array.length_toList, hlist, List.length_map]
    have hval : ∀ j : Nat, j < xs.length → scr.slots[j]? = some (.int (xs.getD j 0)) := fun j hj => by
      rw [← Array.getElem?_toList, hlist]
      simp [hj]
    have hbl : b < s.heap.size := (Array.getElem?_eq_some_iff.mp hcb).1
    have hX : va_X b xs.length (fun j => xs.getD j 0) s s.heap := ⟨scr, hcb, hof, hkn, hsz, hval⟩
    have K : W p l e room_1 s m #[Value.ref b] below meth c s₁.heap [] 0 0 (lw_Z below #[Value.ref b] s) (entryFrame m ([Value.ref b] : List Value).toArray 4) := by
      rw [hh0]
      exact whole_start l hflags hbd ⟨B.exec, B.bytes, B.returns, hml, hown, hts, hX, hbl, B.notSynchronized, hgv⟩
    obtain ⟨t, a1, o, b1, b2, b3⟩ := K s₁ rfl X₀
    exact ⟨t, o, a1, b1, b2, b3⟩
theorem lw_pre_spec {args : Array Value} {s : State} (h : (Jvm.Cond.and given_1 narrow_1).before args s = true) (hr : rest_1_c.before args s = true) : ∃ (b : Addr) (xs : List Int32), lw_P b xs args s := by
  have hs := flat_of_before _ h
  have hq := flat_of_before _ hr
  have hc : (Cond.count 1).before args s = true := hs _ (by decide +kernel)
  have harr : (Cond.arrayOf (.arg 0) .int).before args s = true := hs _ (by decide +kernel)
  have hle : (Cond.le (.length (.arg 0)) (.int 3072)).before args s = true := hs _ (by decide +kernel)
  have hlen : (Cond.isInt (.length (.arg 0))).before args s = true := hq _ (by decide +kernel)
  have hall : (Cond.all (.arg 0) (.isInt (.elem (.arg 0) (.index 0)))).before args s = true := hq _ (by decide +kernel)
  obtain ⟨b, xs, hb, hx⟩ := State.ints_of_pre rfl harr hlen hall
  have hsm : xs.length < 2 ^ 31 := hx.choose_spec.2.2.2
  have hev : (Term.length (.arg 0)).eval args s none [] s = some (.int xs.length.toInt32) := hx.length_eval hb
  have hv := Cond.le_ints hev (show (Term.int 3072).eval args s none [] s = some (.int 3072) from rfl)
  have hd : xs.length.toInt32 ≤ 3072 := by
    simpa [Cond.before, Cond.holds, hv] using hle
  have hN : xs.length ≤ 3072 := (Int32.ofNat_le_ofNat hsm (by decide)).mp (show Int32.ofNat xs.length ≤ Int32.ofNat 3072 from hd)
  exact ⟨b, xs, Cond.one_arg hc (show args[0]? = some (.ref b) from hb), hx, hN, h⟩
theorem lw_comes (l : Launch) (hflags : l.flags = flags0) : Comes l x (Jvm.Cond.code x code maxLocals ret :: tables_1) room_1 (fun tb e args s => Calls_1 tb e args s ∧ rest_1 tb e args s ∧ Pre_1 tb e args s)
    (fun _ _ args s o t => lw_Q args s o t) := by
  intro p e ha hc hk s m args below hf hfit hheap happ hpre
  obtain ⟨b, xs, hP⟩ := lw_pre_spec hpre.2.2 hpre.2.1
  obtain ⟨k, o, h1, h2, h3, hQ⟩ := lw_walk l hflags b xs p e ha hc hk s m args below hf ((Spec.applies_iff_loose hf).mp happ).1 hP trivial
  exact ⟨k, o, h1, h2, h3, hQ⟩
theorem lw_frame {s t : State} {o : Outcome} {args : Array Value} (h : Framed s o t [] 600000 7302250) :
    Framed s o t (fieldLocs frame_1_writes args s ++ arrayLocs frame_1_arrays args s ++ staticLocs frame_1_statics s) 600000 7302250 := h
theorem lw_limb (L : Cond) (hL : ∀ (args : Array Value) (s t : State), L.after args s (.returned (some (.int 1))) t = true) :
    ArmFor flags0 classFile x code maxLocals ret World_1 tables_1 room_1 Calls_1 rest_1 Pre_1
      (fun tb e a s o t => postC L tb e a s o t ∧ Framed s o t (fieldLocs frame_1_writes a s ++ arrayLocs frame_1_arrays a s ++ staticLocs frame_1_statics s) 600000 7302250) := by
  intro l hflags _ _ p e ha hc hk s m args below hf hfit hheap happ hpre
  obtain ⟨k, o, h1, h2, h3, rfl, hF⟩ := lw_comes l hflags p e ha hc hk s m args below hf hfit hheap happ hpre
  exact ⟨k, _, h1, h2, h3, hL args s _, lw_frame hF⟩
theorem i_vc : Claimed_1_1 ∧ Claimed_1_2 := ⟨lw_limb limb_1_1 (fun args s t => by simp [limb_1_1, Cond.after, Cond.holds, Cond.value]), lw_limb limb_1_2 (fun args s t => Cond.after_iff.mpr (by
  first | (rw [show limb_1_2 = Cond.eq .result (.int 1) from rfl, Cond.eq_ints (x := 1) (y := 1) rfl rfl]; simp; done) | (simp [limb_1_2, Cond.value, Term.eval]; done)))⟩
