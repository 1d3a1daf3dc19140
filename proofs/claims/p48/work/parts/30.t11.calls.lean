/-! ===== tk: the calls ===== -/
def tk_pop : Nat → List tk_V → List tk_V → Option (List tk_V × List tk_V)
  | 0, acc, sk => some (acc, sk)
  | n + 1, acc, a :: sk => tk_pop n (a :: acc) sk
  | _ + 1, _, [] => none
def tk_sum : List tk_V → Nat
  | [] => 0
  | a :: r => tk_cat a + tk_sum r
theorem tk_pop_ok {vals : List Int} {rads : List Nat} : ∀ (n : Nat) {acc sk as r : List tk_V} {va stk : List Value}, tk_pop n acc sk = some (as, r) → rk_A2 (tk_g vals rads) acc va → rk_A2 (tk_g vals rads) sk stk → ∃ (v2 r2 : List Value), rk_A2 (tk_g vals rads) as (v2 ++ va) ∧ rk_A2 (tk_g vals rads) r r2 ∧ stk = v2.reverse ++ r2 ∧ v2.length = n := by
  intro n
  induction n with
  | zero => intro acc sk as r va stk h ha hs; cases h; exact ⟨[], stk, by simpa using ha, hs, by simp, rfl⟩
  | succ n ih =>
    intro acc sk as r va stk h ha hs
    cases sk with
    | nil => cases h
    | cons a sk =>
      obtain ⟨v, k, rfl, hg, hs⟩ := hs.cons
      obtain ⟨v2, r2, h1, h2, rfl, h4⟩ := ih (show tk_pop n (a :: acc) sk = some (as, r) from h) (show rk_A2 (tk_g vals rads) (a :: acc) (v :: va) from ⟨hg, ha⟩) hs
      exact ⟨v2 ++ [v], r2, by simpa using h1, h2, by simp, by simp [h4]⟩
theorem tk_sum_ok {vals : List Int} {rads : List Nat} : ∀ {r : List tk_V} {stk : List Value}, rk_A2 (tk_g vals rads) r stk → tk_sum r = (stk.map fun v => v.category).sum := by
  intro r
  induction r with
  | nil => intro stk h; rw [h.nil]; rfl
  | cons a r ih =>
    intro stk h
    obtain ⟨v, k, rfl, hg, hs⟩ := h.cons
    simp [tk_sum, tk_cat_ok hg, ih hs]
def tk_sub (mods m2 : List (Nat × Nat)) : Bool := m2.all (fun y => mods.any (fun z => Nat.beq z.1 y.1 && Nat.beq z.2 y.2))
theorem tk_sub_ok {mods m2 : List (Nat × Nat)} (h : tk_sub mods m2 = true) : ∀ z ∈ m2, z ∈ mods := by
  intro y hy
  obtain ⟨z, z1, z2⟩ := List.any_eq_true.mp (List.all_eq_true.mp h y hy)
  rw [Bool.and_eq_true] at z2
  have e1 : z = y := Prod.ext (Nat.eq_of_beq_eq_true z2.1) (Nat.eq_of_beq_eq_true z2.2)
  rw [← e1]
  exact z1
def tk_aft (pc : Nat) (lo : List (Nat × tk_V)) (r : List tk_V) (o : tk_O) : List (Nat × tk_S) := o.1.map (fun x => (pc, (lo, x.1.toList ++ r, x.2.1, x.2.2.1, x.2.2.2)))
def tk_f_cv (mods : List (Nat × Nat)) (TY : tk_TT) (mci : List Nat) (call : tk_Ca) (pc f n : Nat) : tk_Fn := fun st => match tk_pop n [] st.2.1 with
  | some (as, a :: r) => if a.1 = 2 ∧ tk_sum r ≤ 8 then (match st.2.2.2.1[a.2.1]? with
    | some t => (match TY.1[t]? with
      | some (.inl o) => if mci[f]? = some o.1 then (match call f (a :: as) st.2.2.1 st.2.2.2.1 st.2.2.2.2 with
        | some x => if tk_sub mods x.2 = true then some (tk_aft pc st.1 r x) else none
        | none => none) else none
      | _ => none)
    | none => none) else none
  | _ => none
def tk_f_cs (mods : List (Nat × Nat)) (call : tk_Ca) (pc f n : Nat) : tk_Fn := fun st => match tk_pop n [] st.2.1 with
  | some (as, r) => if tk_sum r ≤ 8 then (match call f as st.2.2.1 st.2.2.2.1 st.2.2.2.2 with
    | some x => if tk_sub mods x.2 = true then some (tk_aft pc st.1 r x) else none
    | none => none) else none
  | none => none
section TKV
variable {p : Program} {l : Launch} {e : Env} {R : Room} {s : State} {m : MethodId} {args : Array Value} {below : List Frame} {meth : Method} {c : Code} {Q : State → Prop} {cc : ByteArray} {D : va_G} {cl : List vw_C} {Ad : Nat → Prop} {nL : Nat} {vals0 : List Int} {rads0 : List Nat}
variable {mods : List (Nat × Nat)} {ws0 : va_W} {tbl xw : List Jvm.Cond} {fty : rk_F} {cln : List String} {MN : List rk_N} {mci : List Nat} {P : List rk_M2} {own : String} {lk : List (Nat × Nat × Nat × Nat)} {cs : List (Nat × Value)} {xt : tk_XT} {TY : tk_TT} {ro : Nat → Nat → Int → Prop} {X : va_W → Prop} {ads tw : List Nat}
/-- the ends of a call go on -/
theorem tk_aft_ok {ws : va_W} {pc : Nat} {lo : List (Nat × tk_V)} {r : List tk_V} {o : tk_O} {vals : List Int} {rads : List Nat} {ls : Array Slot} {rest : List Value} {lc : List (Nat × Value)} (hv0 : ∃ k, vals = vals0 ++ k) (hr0 : ∃ k, rads = rads0 ++ k) (hun : tk_ux TY X mods tw ws0 ws) (hsb : ∀ z ∈ o.2, z ∈ mods) (hl : lv_has ls nL lc) (hL : tk_Lo vals rads lo lc) (hS : rk_A2 (tk_g vals rads) r rest) (kk : ∀ q ∈ tk_aft pc lo r o, tk_St (rk_KW p l e R s m args below meth c Q) nL (tk_hr mods ws0 TY ro X ads tw s D cl Ad vals0 rads0) q.1 q.2) : ∀ x ∈ o.1, ∀ (vals' : List Int) (rads' : List Nat) (ws' : va_W) (H' : Heap) (locs' : List Loc) (v : Option Value), (∃ k, vals' = vals ++ k) → (∃ k, rads' = rads ++ k) → tk_H x.2.1 vals' → tk_hs TY ro X ads tw s D cl Ad vals' rads' H' locs' x.2.2.1 x.2.2.2 ws' → tk_ux TY X o.2 tw ws ws' → tk_ret x.1 vals' rads' (.returned v) → rk_KW p l e R s m args below meth c Q pc ls (v.toList ++ rest) H' locs' 0 0 := by
  intro x hx vals' rads' ws' H' locs' v hv hr hH hs hu2 hret
  obtain ⟨k1, rfl⟩ := hv
  obtain ⟨k2, rfl⟩ := hr
  obtain ⟨k3, hv0⟩ := hv0
  obtain ⟨k4, hr0⟩ := hr0
  obtain ⟨b1, b2, b3, b4, b5, b6, b7⟩ := hs
  refine kk _ (List.mem_map.mpr ⟨x, hx, rfl⟩) (vals ++ k1) (rads ++ k2) H' locs' ls _ lc hH ⟨⟨k3 ++ k1, by rw [hv0, List.append_assoc]⟩, ⟨k4 ++ k2, by rw [hr0, List.append_assoc]⟩, b1, ws', b2, b3, b4, b5, b6, ⟨tk_un_tr hun.1 hu2.1 hsb, hu2.2⟩, b7⟩ hl (hL.grow k1 k2) ?_
  have hS' := tk_skG hS k1 k2
  cases hx1 : x.1 with
  | none =>
    rw [hx1] at hret
    have : v = none := Outcome.returned.inj hret
    subst this
    exact hS'
  | some a =>
    rw [hx1] at hret
    obtain ⟨u, hg, eu⟩ := hret
    have : v = some u := Outcome.returned.inj eu
    subst this
    exact ⟨hg, hS'⟩
set_option maxHeartbeats 4000000 in
theorem tk_cv_ok (hxt : tk_xtok xt) (hXt : xt Ad s s.heap) (hok : rk_ok tbl xw cl fty cln MN mci P) (hx : p.tables.exec = Jvm.exec) (hb : c.code = cc) (hml : c.maxLocals = nL) (hF : rk_Fr s m args meth D cl Ad tbl xw fty cln own lk cs) (hck : ∀ r ∈ lk, rk_cok tbl xw MN P own r) {d : Nat} {call : tk_Ca} (hcall : tk_SC l D cl tbl xw xt MN P TY ro X ads tw d call) (hfr : d + 1 ≤ R.frames) (hlo : 40 * (d + 1) ≤ R.locals) {pc idx kd f n : Nat} {st : tk_S} {res : List (Nat × tk_S)} (hlk1 : rk_lk lk idx = some (kd, f, n)) (hkd : kd = 5 ∨ kd = 6) (hdg : decode cc pc = .ok (.invokevirtual idx, 3)) (h : tk_f_cv mods TY mci call (pc + 3) f n st = some res) (kk : ∀ q ∈ res, tk_St (rk_KW p l e R s m args below meth c Q) nL (tk_hr mods ws0 TY ro X ads tw s D cl Ad vals0 rads0) q.1 q.2) : tk_St (rk_KW p l e R s m args below meth c Q) nL (tk_hr mods ws0 TY ro X ads tw s D cl Ad vals0 rads0) pc st := by
  obtain ⟨hgw, hxo, -, -, hlenM, hmok, hmci⟩ := hok
  obtain ⟨hts, hxw, hown, hK, hA, hcl, hlk, hini, hac, hcs⟩ := hF
  obtain ⟨lo, sk, w, rf, fa⟩ := st
  intro vals rads H locs ls stk lc hH hR hl hL hS
  dsimp only at hH hR hL hS
  have hfix : CallFix p m c cc nL s args tbl own := ⟨hx, hb, hml, hown, hts⟩
  unfold tk_f_cv at h
  dsimp only at h
  split at h
  · next as a r hpop =>
    split at h
    · next hcnd =>
      split at h
      · next t ht =>
        split at h
        · next o1 hT =>
          split at h
          · next hci =>
            split at h
            · next o hcl1 =>
             split at h
             · next hsb =>
              cases h
              obtain ⟨v2, r2, ha1, hr1, rfl, hn⟩ := tk_pop_ok n hpop (show rk_A2 (tk_g vals rads) [] [] from trivial) hS
              rw [List.append_nil] at ha1
              obtain ⟨vr, rest, rfl, hgr, hS1⟩ := hr1.cons
              obtain ⟨x, hax, rfl⟩ := tk_g2 hgr hcnd.1
              obtain ⟨hv0, hr0, h3, ws, h4, h5, h6, h7, h8, hun, h9⟩ := id hR
              obtain ⟨x', hax', hty⟩ := h3.get ht
              rw [hax] at hax'
              cases hax'
              obtain ⟨j, e1, hw, hj, hc1⟩ := tk_cell h4 h5 hty
              unfold tk_cl at hc1
              rw [hT] at hc1
              obtain ⟨vs, rfl, hvl, hvs⟩ := hc1
              have hs : tk_hs TY ro X ads tw s D cl Ad vals rads H locs rf fa ws := ⟨h3, h4, h5, h6, h7, h8, h9⟩
              have hck1 := hck _ (rk_lk_mem hlk1)
              have hsum := hcnd.2
              rw [tk_sum_ok hS1] at hsum
              rcases hkd with rfl | rfl
              ·
                obtain ⟨q, hq, w1, w2, w3, w4⟩ := hck1
                obtain ⟨M, hM, hM21, hmet⟩ := hcall f _ _ _ _ _ hcl1 q hq
                obtain ⟨m1, m2, m3, m4, m5, -⟩ := hmok f q M hq hM
                obtain ⟨kq, hkq, -⟩ := hs.2.2.2.1 j _ hw
                have hkn := hmci f o1.1 q kq hci hq hkq
                have hrecv := va_recv hK hs.2.2.2.1 hkq hw
                rw [hkn] at hrecv
                refine tk_back (as := (Value.ref x :: v2).toArray) hA hs ?_ (tk_aft_ok (ws := ws) hv0 hr0 hun (tk_sub_ok hsb) hl hL hS1 kk)
                exact va_runV (C := q.1) hfix (hmet vals rads ws (.ref x :: v2) H.size hH h3 ⟨hgr, ha1⟩ h4 h9 (tk_ob_of h4 h5)) ⟨callB_of n hts (rk_good hgw m4) rfl rfl rfl (hts _ m5) (hts _ w1) ⟨m3.1, m3.2, w4⟩ ⟨hfr, by show 8 + (M.2.1 + 11) + 40 * d ≤ R.locals; omega⟩, hts _ w2, hts _ w3⟩ ⟨tk_blind hxo hxt, hrecv, fun U hU hW => tk_pre hxo hxw hxt hXt hA hK hs hun.2 U hU hW⟩ rfl hn hl.1 rfl (lv_room hsum) hdg ⟨Nat.zero_le _, Nat.zero_le _⟩
              ·
                obtain ⟨q, host, hq, w1, w2, w3, w4⟩ := hck1
                obtain ⟨M, hM, hM21, hmet⟩ := hcall f _ _ _ _ _ hcl1 q hq
                obtain ⟨m1, m2, m3, m4, m5, -⟩ := hmok f q M hq hM
                obtain ⟨kq, hkq, -⟩ := hs.2.2.2.1 j _ hw
                have hkn := hmci f o1.1 q kq hci hq hkq
                have hrecv := va_recv hK hs.2.2.2.1 hkq hw
                rw [hkn] at hrecv
                refine tk_back (as := (Value.ref x :: v2).toArray) hA hs ?_ (tk_aft_ok (ws := ws) hv0 hr0 hun (tk_sub_ok hsb) hl hL hS1 kk)
                exact va_runVN (C := q.1) hfix (hmet vals rads ws (.ref x :: v2) H.size hH h3 ⟨hgr, ha1⟩ h4 h9 (tk_ob_of h4 h5)) ⟨va_cnB n hts (rk_good hgw m4) rfl rfl rfl (hxw _ w1) (hts _ m5) ⟨m3.1, m3.2, w4⟩ ⟨hfr, by show 8 + (M.2.1 + 11) + 40 * d ≤ R.locals; omega⟩, hts _ w2, hts _ w3⟩ ⟨tk_blind hxo hxt, hrecv, fun U hU hW => tk_pre hxo hxw hxt hXt hA hK hs hun.2 U hU hW⟩ rfl hn hl.1 rfl (lv_room hsum) hdg ⟨Nat.zero_le _, Nat.zero_le _⟩
             · cases h
            · cases h
          · cases h
        · cases h
      · cases h
    · cases h
  · cases h
set_option maxHeartbeats 4000000 in
theorem tk_cs_ok (hxt : tk_xtok xt) (hXt : xt Ad s s.heap) (hok : rk_ok tbl xw cl fty cln MN mci P) (hx : p.tables.exec = Jvm.exec) (hb : c.code = cc) (hml : c.maxLocals = nL) (hF : rk_Fr s m args meth D cl Ad tbl xw fty cln own lk cs) (hck : ∀ r ∈ lk, rk_cok tbl xw MN P own r) {d : Nat} {call : tk_Ca} (hcall : tk_SC l D cl tbl xw xt MN P TY ro X ads tw d call) (hfr : d + 1 ≤ R.frames) (hlo : 40 * (d + 1) ≤ R.locals) {pc idx kd f n : Nat} {st : tk_S} {res : List (Nat × tk_S)} (hlk1 : rk_lk lk idx = some (kd, f, n)) (hkd : kd = 7 ∨ kd = 8) (hdg : decode cc pc = .ok (.invokestatic idx, 3)) (h : tk_f_cs mods call (pc + 3) f n st = some res) (kk : ∀ q ∈ res, tk_St (rk_KW p l e R s m args below meth c Q) nL (tk_hr mods ws0 TY ro X ads tw s D cl Ad vals0 rads0) q.1 q.2) : tk_St (rk_KW p l e R s m args below meth c Q) nL (tk_hr mods ws0 TY ro X ads tw s D cl Ad vals0 rads0) pc st := by
  obtain ⟨hgw, hxo, -, -, hlenM, hmok, hmci⟩ := hok
  obtain ⟨hts, hxw, hown, hK, hA, hcl, hlk, hini, hac, hcs⟩ := hF
  obtain ⟨lo, sk, w, rf, fa⟩ := st
  intro vals rads H locs ls stk lc hH hR hl hL hS
  dsimp only at hH hR hL hS
  have hfix : CallFix p m c cc nL s args tbl own := ⟨hx, hb, hml, hown, hts⟩
  unfold tk_f_cs at h
  dsimp only at h
  split at h
  · next as r hpop =>
    split at h
    · next hcnd =>
      split at h
      · next o hcl1 =>
           split at h
           · next hsb =>
            cases h
            obtain ⟨v2, rest, ha1, hS1, rfl, hn⟩ := tk_pop_ok n hpop (show rk_A2 (tk_g vals rads) [] [] from trivial) hS
            rw [List.append_nil] at ha1
            obtain ⟨hv0, hr0, h3, ws, h4, h5, h6, h7, h8, hun, h9⟩ := id hR
            have hs : tk_hs TY ro X ads tw s D cl Ad vals rads H locs rf fa ws := ⟨h3, h4, h5, h6, h7, h8, h9⟩
            have hck1 := hck _ (rk_lk_mem hlk1)
            have hsum := hcnd
            rw [tk_sum_ok hS1] at hsum
            rcases hkd with rfl | rfl
            ·
              obtain ⟨q, hq, w1, w2, w4⟩ := hck1
              obtain ⟨M, hM, hM21, hmet⟩ := hcall f _ _ _ _ _ hcl1 q hq
              obtain ⟨m1, m2, m3, m4, m5, -⟩ := hmok f q M hq hM
              refine tk_back (as := v2.toArray) hA hs ?_ (tk_aft_ok (ws := ws) hv0 hr0 hun (tk_sub_ok hsb) hl hL hS1 kk)
              exact va_runS hfix (hmet vals rads ws v2 H.size hH h3 ha1 h4 h9 (tk_ob_of h4 h5)) ⟨callB_of n hts (rk_good hgw m4) rfl rfl rfl (hts _ m5) (hts _ w1) ⟨m3.1, m3.2, w4⟩ ⟨hfr, by show 8 + (M.2.1 + 11) + 40 * d ≤ R.locals; omega⟩, hts _ w2⟩ ⟨tk_blind hxo hxt, fun U hU hW => tk_pre hxo hxw hxt hXt hA hK hs hun.2 U hU hW⟩ rfl hn hl.1 rfl (lv_room hsum) hdg ⟨Nat.zero_le _, Nat.zero_le _⟩
            ·
              obtain ⟨q, host, hq, w1, w2, w4⟩ := hck1
              obtain ⟨M, hM, hM21, hmet⟩ := hcall f _ _ _ _ _ hcl1 q hq
              obtain ⟨m1, m2, m3, m4, m5, -⟩ := hmok f q M hq hM
              refine tk_back (as := v2.toArray) hA hs ?_ (tk_aft_ok (ws := ws) hv0 hr0 hun (tk_sub_ok hsb) hl hL hS1 kk)
              exact va_runSN hfix (hmet vals rads ws v2 H.size hH h3 ha1 h4 h9 (tk_ob_of h4 h5)) ⟨va_cnB n hts (rk_good hgw m4) rfl rfl rfl (hxw _ w1) (hts _ m5) ⟨m3.1, m3.2, w4⟩ ⟨hfr, by show 8 + (M.2.1 + 11) + 40 * d ≤ R.locals; omega⟩, hts _ w2, trivial⟩ ⟨tk_blind hxo hxt, fun U hU hW => tk_pre hxo hxw hxt hXt hA hK hs hun.2 U hU hW⟩ rfl hn hl.1 rfl (lv_room hsum) hdg ⟨Nat.zero_le _, Nat.zero_le _⟩
           · cases h
      · cases h
    · cases h
  · cases h
end TKV
