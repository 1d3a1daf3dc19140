/-! ===== tk: arrays: loads, lengths ===== -/
theorem tk_A2_setR {α β : Type} {R : α → β → Prop} {a : α} {b : β} (hr : R a b) : ∀ {l : List α} {l' : List β}, rk_A2 R l l' → ∀ {j : Nat}, l[j]? = some a → rk_A2 R l (l'.set j b) := by
  intro l
  induction l with
  | nil => intro l' h j hj; simp at hj
  | cons x l ih =>
    intro l' h j hj
    cases l' with
    | nil => exact h.elim
    | cons y l' =>
      cases j with
      | zero => simp at hj; subst hj; exact ⟨hr, h.2⟩
      | succ j => simp at hj; exact ⟨h.1, ih h.2 hj⟩
/-- an index within -/
def tk_ix (env : List tk_I) (ix : tk_V) (n : Nat) : Bool := match tk_iv env ix with
  | some I => decide (0 ≤ I.1) && decide (I.2 < (n : Int))
  | none => false
theorem tk_ix_ok {env : List tk_I} {vals : List Int} {ix : tk_V} {x : Int32} {n : Nat} (hE : tk_E env vals) (hn : tk_num vals ix = some x.toInt) (h : tk_ix env ix n = true) : vp_in x n ∧ x.toNatClampNeg < n ∧ (x.toNatClampNeg : Int) = x.toInt := by
  unfold tk_ix at h
  split at h
  · next I hI =>
    have b := tk_iv_ok hE hn hI
    rw [Bool.and_eq_true, decide_eq_true_eq, decide_eq_true_eq] at h
    have e : x.toNatClampNeg = x.toInt.toNat := rfl
    exact ⟨vp_in_iff.mpr ⟨by omega, by omega⟩, by omega, by omega⟩
  · cases h
def tk_f_len (TY : List tk_TY) (pc : Nat) : tk_Fn := fun st => match st.2.1 with
  | a :: r => if a.1 = 2 then (match st.2.2.2.1[a.2.1]? with
    | some t => (match TY[t]? with
      | some (.inr q) => if q.2.1 < 2147483648 then some [(pc, (st.1, (0, 0, 0, (q.2.1 : Int)) :: r, st.2.2))] else none
      | _ => none)
    | none => none) else none
  | _ => none
def tk_f_ld0 (TY : List tk_TY) (pc : Nat) : tk_Fn := fun st => match st.2.1 with
  | ix :: a :: r => if a.1 = 2 ∧ ix.1 = 0 then (match st.2.2.2.1[a.2.1]? with
    | some t => (match TY[t]? with
      | some (.inr (.int, n, f)) => if tk_ix st.2.2.1.1 ix n = true then (match tk_nw st.2.2.1 st.2.2.2.1 f with
        | some q => some [(pc, (st.1, q.1 :: r, q.2.1, q.2.2, st.2.2.2.2))]
        | none => none) else none
      | _ => none)
    | none => none) else none
  | _ => none
def tk_f_ld1 (TY : List tk_TY) (pc : Nat) : tk_Fn := fun st => match st.2.1 with
  | ix :: a :: r => if a.1 = 2 ∧ ix.1 = 0 then (match st.2.2.2.1[a.2.1]? with
    | some t => (match TY[t]? with
      | some (.inr (.byte, n, f)) => if tk_ix st.2.2.1.1 ix n = true then (match tk_nw st.2.2.1 st.2.2.2.1 f with
        | some q => some [(pc, (st.1, q.1 :: r, q.2.1, q.2.2, st.2.2.2.2))]
        | none => none) else none
      | _ => none)
    | none => none) else none
  | _ => none
def tk_f_ld2 (TY : List tk_TY) (pc : Nat) : tk_Fn := fun st => match st.2.1 with
  | ix :: a :: r => if a.1 = 2 ∧ ix.1 = 0 then (match st.2.2.2.1[a.2.1]? with
    | some t => (match TY[t]? with
      | some (.inr (.long, n, f)) => if tk_ix st.2.2.1.1 ix n = true then (match tk_nw st.2.2.1 st.2.2.2.1 f with
        | some q => some [(pc, (st.1, q.1 :: r, q.2.1, q.2.2, st.2.2.2.2))]
        | none => none) else none
      | _ => none)
    | none => none) else none
  | _ => none
def tk_f_ld3 (TY : List tk_TY) (pc : Nat) : tk_Fn := fun st => match st.2.1 with
  | ix :: a :: r => if a.1 = 2 ∧ ix.1 = 0 then (match st.2.2.2.1[a.2.1]? with
    | some t => (match TY[t]? with
      | some (.inr (.object _, n, f)) => if tk_ix st.2.2.1.1 ix n = true then (match tk_nw st.2.2.1 st.2.2.2.1 f with
        | some q => some [(pc, (st.1, q.1 :: r, q.2.1, q.2.2, st.2.2.2.2))]
        | none => none) else none
      | _ => none)
    | none => none) else none
  | _ => none
def tk_f_ld4 (TY : List tk_TY) (pc : Nat) : tk_Fn := fun st => match st.2.1 with
  | ix :: a :: r => if a.1 = 2 ∧ ix.1 = 0 then (match st.2.2.2.1[a.2.1]? with
    | some t => (match TY[t]? with
      | some (.inr (.array _, n, f)) => if tk_ix st.2.2.1.1 ix n = true then (match tk_nw st.2.2.1 st.2.2.2.1 f with
        | some q => some [(pc, (st.1, q.1 :: r, q.2.1, q.2.2, st.2.2.2.2))]
        | none => none) else none
      | _ => none)
    | none => none) else none
  | _ => none
section TKJ
variable {p : Program} {l : Launch} {e : Env} {R : Room} {s : State} {m : MethodId} {args : Array Value} {below : List Frame} {meth : Method} {c : Code} {Q : State → Prop} {cc : ByteArray} {D : va_G} {cl : List vw_C} {Ad : Nat → Prop} {nL : Nat} {vals0 : List Int} {rads0 : List Nat}
variable {mods : List (Nat × Nat)} {ws0 : va_W} {tbl xw : List Jvm.Cond} {fty : rk_F} {cln : List String} {own : String} {lk : List (Nat × Nat × Nat × Nat)} {cs : List (Nat × Value)} {TY : List tk_TY} {ro : Nat → Nat → Int → Prop} {reg : Nat → Nat → tk_I} {ads tw : List Nat}
theorem tk_ld0_ok (hx : p.tables.exec = Jvm.exec) (hb : c.code = cc) (hF : rk_Fr s m args meth D cl Ad tbl xw fty cln own lk cs) {pc : Nat} {st : tk_S} {res : List (Nat × tk_S)} (hdg : decode cc pc = .ok (.iaload, 1)) (h : tk_f_ld0 TY (pc + 1) st = some res) (kk : ∀ q ∈ res, tk_St (rk_KW p l e R s m args below meth c Q) nL (tk_hr mods ws0 TY ro reg ads tw s D cl Ad vals0 rads0) q.1 q.2) : tk_St (rk_KW p l e R s m args below meth c Q) nL (tk_hr mods ws0 TY ro reg ads tw s D cl Ad vals0 rads0) pc st := by
  obtain ⟨hts, hxw, hown, hK, hA, hcl, hlk, hini, hac, hcs⟩ := hF
  obtain ⟨lo, sk, w, rf, fa⟩ := st
  intro vals rads H locs ls stk lc hH hR hl hL hS
  dsimp only at hH hR hL hS
  unfold tk_f_ld0 at h
  split at h
  · next ix a r e1 =>
    dsimp only at e1
    subst e1
    split at h
    · next hk =>
      split at h
      · next t ht =>
        split at h
        · next n f hT =>
          split at h
          · next hix =>
            split at h
            · next q hq =>
              cases h
              dsimp only at ht
              obtain ⟨vi, k0, rfl, gi, hS0⟩ := hS.cons
              obtain ⟨va, k1, rfl, hg, hS1⟩ := hS0.cons
              obtain ⟨xi, rfl, hxi⟩ := tk_g0 gi hk.2
              obtain ⟨x, hax, rfl⟩ := tk_g2 hg hk.1
              obtain ⟨hv0, hr0, h3, ws, h4, h5, h6, h7, h8, hun, h9⟩ := id hR
              obtain ⟨x', hax', hty⟩ := h3.get ht
              rw [hax] at hax'
              cases hax'
              obtain ⟨j, e1, hw, hj, hc1⟩ := tk_cell h4 h5 hty
              unfold tk_cl at hc1
              rw [hT] at hc1
              obtain ⟨cA, hA1, hA2, g, rfl, hf⟩ := hc1
              obtain ⟨hin, hlt, hti⟩ := tk_ix_ok hH.1 hxi hix
              obtain ⟨l1, r1, q1, q2, q3⟩ := tk_nw_ok hH h3 (hf _ hlt) hq
              obtain ⟨kv, hv0⟩ := hv0
              obtain ⟨kr, hr0⟩ := hr0
              refine va_iald hx hb (rk_K1 hK hA1 hA2) h6 j 0 hw rfl hin hdg ?_
              exact kk _ (List.mem_singleton.mpr rfl) (vals ++ l1) (rads ++ r1) H locs ls _ lc q1 ⟨⟨kv ++ l1, by rw [hv0, List.append_assoc]⟩, ⟨kr ++ r1, by rw [hr0, List.append_assoc]⟩, q2, ws, h4, h5, h6, h7, h8, hun, fun z hz => tk_fk_grow l1 r1 (h9 z hz)⟩ hl (hL.grow l1 r1) ⟨q3, tk_skG hS1 l1 r1⟩
            · cases h
          · cases h
        · cases h
      · cases h
    · cases h
  · cases h
theorem tk_ld1_ok (hx : p.tables.exec = Jvm.exec) (hb : c.code = cc) (hF : rk_Fr s m args meth D cl Ad tbl xw fty cln own lk cs) {pc : Nat} {st : tk_S} {res : List (Nat × tk_S)} (hdg : decode cc pc = .ok (.baload, 1)) (h : tk_f_ld1 TY (pc + 1) st = some res) (kk : ∀ q ∈ res, tk_St (rk_KW p l e R s m args below meth c Q) nL (tk_hr mods ws0 TY ro reg ads tw s D cl Ad vals0 rads0) q.1 q.2) : tk_St (rk_KW p l e R s m args below meth c Q) nL (tk_hr mods ws0 TY ro reg ads tw s D cl Ad vals0 rads0) pc st := by
  obtain ⟨hts, hxw, hown, hK, hA, hcl, hlk, hini, hac, hcs⟩ := hF
  obtain ⟨lo, sk, w, rf, fa⟩ := st
  intro vals rads H locs ls stk lc hH hR hl hL hS
  dsimp only at hH hR hL hS
  unfold tk_f_ld1 at h
  split at h
  · next ix a r e1 =>
    dsimp only at e1
    subst e1
    split at h
    · next hk =>
      split at h
      · next t ht =>
        split at h
        · next n f hT =>
          split at h
          · next hix =>
            split at h
            · next q hq =>
              cases h
              dsimp only at ht
              obtain ⟨vi, k0, rfl, gi, hS0⟩ := hS.cons
              obtain ⟨va, k1, rfl, hg, hS1⟩ := hS0.cons
              obtain ⟨xi, rfl, hxi⟩ := tk_g0 gi hk.2
              obtain ⟨x, hax, rfl⟩ := tk_g2 hg hk.1
              obtain ⟨hv0, hr0, h3, ws, h4, h5, h6, h7, h8, hun, h9⟩ := id hR
              obtain ⟨x', hax', hty⟩ := h3.get ht
              rw [hax] at hax'
              cases hax'
              obtain ⟨j, e1, hw, hj, hc1⟩ := tk_cell h4 h5 hty
              unfold tk_cl at hc1
              rw [hT] at hc1
              obtain ⟨cA, hA1, hA2, g, rfl, hf⟩ := hc1
              obtain ⟨hin, hlt, hti⟩ := tk_ix_ok hH.1 hxi hix
              obtain ⟨l1, r1, q1, q2, q3⟩ := tk_nw_ok hH h3 (hf _ hlt) hq
              obtain ⟨kv, hv0⟩ := hv0
              obtain ⟨kr, hr0⟩ := hr0
              refine va_bald hx hb (rk_K1 hK hA1 hA2) h6 j 0 hw rfl hin hdg ?_
              exact kk _ (List.mem_singleton.mpr rfl) (vals ++ l1) (rads ++ r1) H locs ls _ lc q1 ⟨⟨kv ++ l1, by rw [hv0, List.append_assoc]⟩, ⟨kr ++ r1, by rw [hr0, List.append_assoc]⟩, q2, ws, h4, h5, h6, h7, h8, hun, fun z hz => tk_fk_grow l1 r1 (h9 z hz)⟩ hl (hL.grow l1 r1) ⟨q3, tk_skG hS1 l1 r1⟩
            · cases h
          · cases h
        · cases h
      · cases h
    · cases h
  · cases h
theorem tk_ld2_ok (hx : p.tables.exec = Jvm.exec) (hb : c.code = cc) (hF : rk_Fr s m args meth D cl Ad tbl xw fty cln own lk cs) {pc : Nat} {st : tk_S} {res : List (Nat × tk_S)} (hdg : decode cc pc = .ok (.laload, 1)) (h : tk_f_ld2 TY (pc + 1) st = some res) (kk : ∀ q ∈ res, tk_St (rk_KW p l e R s m args below meth c Q) nL (tk_hr mods ws0 TY ro reg ads tw s D cl Ad vals0 rads0) q.1 q.2) : tk_St (rk_KW p l e R s m args below meth c Q) nL (tk_hr mods ws0 TY ro reg ads tw s D cl Ad vals0 rads0) pc st := by
  obtain ⟨hts, hxw, hown, hK, hA, hcl, hlk, hini, hac, hcs⟩ := hF
  obtain ⟨lo, sk, w, rf, fa⟩ := st
  intro vals rads H locs ls stk lc hH hR hl hL hS
  dsimp only at hH hR hL hS
  unfold tk_f_ld2 at h
  split at h
  · next ix a r e1 =>
    dsimp only at e1
    subst e1
    split at h
    · next hk =>
      split at h
      · next t ht =>
        split at h
        · next n f hT =>
          split at h
          · next hix =>
            split at h
            · next q hq =>
              cases h
              dsimp only at ht
              obtain ⟨vi, k0, rfl, gi, hS0⟩ := hS.cons
              obtain ⟨va, k1, rfl, hg, hS1⟩ := hS0.cons
              obtain ⟨xi, rfl, hxi⟩ := tk_g0 gi hk.2
              obtain ⟨x, hax, rfl⟩ := tk_g2 hg hk.1
              obtain ⟨hv0, hr0, h3, ws, h4, h5, h6, h7, h8, hun, h9⟩ := id hR
              obtain ⟨x', hax', hty⟩ := h3.get ht
              rw [hax] at hax'
              cases hax'
              obtain ⟨j, e1, hw, hj, hc1⟩ := tk_cell h4 h5 hty
              unfold tk_cl at hc1
              rw [hT] at hc1
              obtain ⟨cA, hA1, hA2, g, rfl, hf⟩ := hc1
              obtain ⟨hin, hlt, hti⟩ := tk_ix_ok hH.1 hxi hix
              obtain ⟨l1, r1, q1, q2, q3⟩ := tk_nw_ok hH h3 (hf _ hlt) hq
              obtain ⟨kv, hv0⟩ := hv0
              obtain ⟨kr, hr0⟩ := hr0
              refine va_lald hx hb (rk_K1 hK hA1 hA2) h6 j 0 hw rfl hin hdg ?_
              exact kk _ (List.mem_singleton.mpr rfl) (vals ++ l1) (rads ++ r1) H locs ls _ lc q1 ⟨⟨kv ++ l1, by rw [hv0, List.append_assoc]⟩, ⟨kr ++ r1, by rw [hr0, List.append_assoc]⟩, q2, ws, h4, h5, h6, h7, h8, hun, fun z hz => tk_fk_grow l1 r1 (h9 z hz)⟩ hl (hL.grow l1 r1) ⟨q3, tk_skG hS1 l1 r1⟩
            · cases h
          · cases h
        · cases h
      · cases h
    · cases h
  · cases h
theorem tk_ld3_ok (hx : p.tables.exec = Jvm.exec) (hb : c.code = cc) (hF : rk_Fr s m args meth D cl Ad tbl xw fty cln own lk cs) {pc : Nat} {st : tk_S} {res : List (Nat × tk_S)} (hdg : decode cc pc = .ok (.aaload, 1)) (h : tk_f_ld3 TY (pc + 1) st = some res) (kk : ∀ q ∈ res, tk_St (rk_KW p l e R s m args below meth c Q) nL (tk_hr mods ws0 TY ro reg ads tw s D cl Ad vals0 rads0) q.1 q.2) : tk_St (rk_KW p l e R s m args below meth c Q) nL (tk_hr mods ws0 TY ro reg ads tw s D cl Ad vals0 rads0) pc st := by
  obtain ⟨hts, hxw, hown, hK, hA, hcl, hlk, hini, hac, hcs⟩ := hF
  obtain ⟨lo, sk, w, rf, fa⟩ := st
  intro vals rads H locs ls stk lc hH hR hl hL hS
  dsimp only at hH hR hL hS
  unfold tk_f_ld3 at h
  split at h
  · next ix a r e1 =>
    dsimp only at e1
    subst e1
    split at h
    · next hk =>
      split at h
      · next t ht =>
        split at h
        · next C n f hT =>
          split at h
          · next hix =>
            split at h
            · next q hq =>
              cases h
              dsimp only at ht
              obtain ⟨vi, k0, rfl, gi, hS0⟩ := hS.cons
              obtain ⟨va, k1, rfl, hg, hS1⟩ := hS0.cons
              obtain ⟨xi, rfl, hxi⟩ := tk_g0 gi hk.2
              obtain ⟨x, hax, rfl⟩ := tk_g2 hg hk.1
              obtain ⟨hv0, hr0, h3, ws, h4, h5, h6, h7, h8, hun, h9⟩ := id hR
              obtain ⟨x', hax', hty⟩ := h3.get ht
              rw [hax] at hax'
              cases hax'
              obtain ⟨j, e1, hw, hj, hc1⟩ := tk_cell h4 h5 hty
              unfold tk_cl at hc1
              rw [hT] at hc1
              obtain ⟨cA, hA1, hA2, g, rfl, hf⟩ := hc1
              obtain ⟨hin, hlt, hti⟩ := tk_ix_ok hH.1 hxi hix
              obtain ⟨l1, r1, q1, q2, q3⟩ := tk_nw_ok hH h3 (hf _ hlt) hq
              obtain ⟨kv, hv0⟩ := hv0
              obtain ⟨kr, hr0⟩ := hr0
              refine va_aldq hx hb (rk_K1 hK hA1 hA2) h6 j 0 hw rfl hin hdg ?_
              exact kk _ (List.mem_singleton.mpr rfl) (vals ++ l1) (rads ++ r1) H locs ls _ lc q1 ⟨⟨kv ++ l1, by rw [hv0, List.append_assoc]⟩, ⟨kr ++ r1, by rw [hr0, List.append_assoc]⟩, q2, ws, h4, h5, h6, h7, h8, hun, fun z hz => tk_fk_grow l1 r1 (h9 z hz)⟩ hl (hL.grow l1 r1) ⟨q3, tk_skG hS1 l1 r1⟩
            · cases h
          · cases h
        · cases h
      · cases h
    · cases h
  · cases h
theorem tk_ld4_ok (hx : p.tables.exec = Jvm.exec) (hb : c.code = cc) (hF : rk_Fr s m args meth D cl Ad tbl xw fty cln own lk cs) {pc : Nat} {st : tk_S} {res : List (Nat × tk_S)} (hdg : decode cc pc = .ok (.aaload, 1)) (h : tk_f_ld4 TY (pc + 1) st = some res) (kk : ∀ q ∈ res, tk_St (rk_KW p l e R s m args below meth c Q) nL (tk_hr mods ws0 TY ro reg ads tw s D cl Ad vals0 rads0) q.1 q.2) : tk_St (rk_KW p l e R s m args below meth c Q) nL (tk_hr mods ws0 TY ro reg ads tw s D cl Ad vals0 rads0) pc st := by
  obtain ⟨hts, hxw, hown, hK, hA, hcl, hlk, hini, hac, hcs⟩ := hF
  obtain ⟨lo, sk, w, rf, fa⟩ := st
  intro vals rads H locs ls stk lc hH hR hl hL hS
  dsimp only at hH hR hL hS
  unfold tk_f_ld4 at h
  split at h
  · next ix a r e1 =>
    dsimp only at e1
    subst e1
    split at h
    · next hk =>
      split at h
      · next t ht =>
        split at h
        · next C n f hT =>
          split at h
          · next hix =>
            split at h
            · next q hq =>
              cases h
              dsimp only at ht
              obtain ⟨vi, k0, rfl, gi, hS0⟩ := hS.cons
              obtain ⟨va, k1, rfl, hg, hS1⟩ := hS0.cons
              obtain ⟨xi, rfl, hxi⟩ := tk_g0 gi hk.2
              obtain ⟨x, hax, rfl⟩ := tk_g2 hg hk.1
              obtain ⟨hv0, hr0, h3, ws, h4, h5, h6, h7, h8, hun, h9⟩ := id hR
              obtain ⟨x', hax', hty⟩ := h3.get ht
              rw [hax] at hax'
              cases hax'
              obtain ⟨j, e1, hw, hj, hc1⟩ := tk_cell h4 h5 hty
              unfold tk_cl at hc1
              rw [hT] at hc1
              obtain ⟨cA, hA1, hA2, g, rfl, hf⟩ := hc1
              obtain ⟨hin, hlt, hti⟩ := tk_ix_ok hH.1 hxi hix
              obtain ⟨l1, r1, q1, q2, q3⟩ := tk_nw_ok hH h3 (hf _ hlt) hq
              obtain ⟨kv, hv0⟩ := hv0
              obtain ⟨kr, hr0⟩ := hr0
              refine va_alda hx hb (rk_K1 hK hA1 hA2) h6 j 0 hw rfl hin hdg ?_
              exact kk _ (List.mem_singleton.mpr rfl) (vals ++ l1) (rads ++ r1) H locs ls _ lc q1 ⟨⟨kv ++ l1, by rw [hv0, List.append_assoc]⟩, ⟨kr ++ r1, by rw [hr0, List.append_assoc]⟩, q2, ws, h4, h5, h6, h7, h8, hun, fun z hz => tk_fk_grow l1 r1 (h9 z hz)⟩ hl (hL.grow l1 r1) ⟨q3, tk_skG hS1 l1 r1⟩
            · cases h
          · cases h
        · cases h
      · cases h
    · cases h
  · cases h
theorem tk_len_ok (hx : p.tables.exec = Jvm.exec) (hb : c.code = cc) (hF : rk_Fr s m args meth D cl Ad tbl xw fty cln own lk cs) {pc : Nat} {st : tk_S} {res : List (Nat × tk_S)} (hdg : decode cc pc = .ok (.arraylength, 1)) (h : tk_f_len TY (pc + 1) st = some res) (kk : ∀ q ∈ res, tk_St (rk_KW p l e R s m args below meth c Q) nL (tk_hr mods ws0 TY ro reg ads tw s D cl Ad vals0 rads0) q.1 q.2) : tk_St (rk_KW p l e R s m args below meth c Q) nL (tk_hr mods ws0 TY ro reg ads tw s D cl Ad vals0 rads0) pc st := by
  obtain ⟨hts, hxw, hown, hK, hA, hcl, hlk, hini, hac, hcs⟩ := hF
  obtain ⟨lo, sk, w, rf, fa⟩ := st
  intro vals rads H locs ls stk lc hH hR hl hL hS
  dsimp only at hH hR hL hS
  unfold tk_f_len at h
  split at h
  · next a r e1 =>
    dsimp only at e1
    subst e1
    split at h
    · next hk =>
      split at h
      · next t ht =>
        split at h
        · next q hT =>
          split at h
          · next hn =>
            cases h
            dsimp only at ht
            obtain ⟨va, k1, rfl, hg, hS1⟩ := hS.cons
            obtain ⟨x, hax, rfl⟩ := tk_g2 hg hk
            obtain ⟨hv0, hr0, h3, ws, h4, h5, h6, h7, h8, hun, h9⟩ := id hR
            obtain ⟨x', hax', hty⟩ := h3.get ht
            rw [hax] at hax'
            cases hax'
            obtain ⟨j, e1, hw, hj, hc1⟩ := tk_cell h4 h5 hty
            unfold tk_cl at hc1
            rw [hT] at hc1
            obtain ⟨cA, hA1, hA2, harr⟩ := hc1
            have he : ∃ z : vp_A, e1 = .inl (cA, z) ∧ z.1 = q.2.1 := by
              unfold tk_ar at harr
              split at harr
              all_goals first
                | exact harr.elim
                | (obtain ⟨f, rfl, -⟩ := harr
                   exact ⟨_, rfl, rfl⟩)
            obtain ⟨z, rfl, hz⟩ := he
            refine va_alen hx hb (rk_K1 hK hA1 hA2) h6 j 0 hw rfl (v := Int32.ofNat q.2.1) (by rw [hz]) hdg ?_
            exact kk _ (List.mem_singleton.mpr rfl) vals rads H locs ls _ lc hH hR hl hL ⟨tk_gi rfl (congrArg some (show ((q.2.1 : Nat) : Int) = (Int32.ofNat q.2.1).toInt from (nI_toInt (n := q.2.1) hn).symm)), hS1⟩
          · cases h
        · cases h
      · cases h
    · cases h
  · cases h
/-- a value that a field, an element may be -/
def tk_fits (env : List tk_I) (f : tk_F) (v : tk_V) : Bool := match f.1 with
  | 0 => v.1 == 0 && (match tk_iv env v with
    | some I => decide (f.2.1 ≤ I.1) && decide (I.2 ≤ f.2.2)
    | none => false)
  | 1 => v.1 == 1 && (match tk_iv env v with
    | some I => decide (f.2.1 ≤ I.1) && decide (I.2 ≤ f.2.2)
    | none => false)
  | _ => false
theorem tk_fits_ok {env : List tk_I} {f : tk_F} {v : tk_V} {vals : List Int} {rads : List Nat} {u : Value} (t i : Nat) (hE : tk_E env vals) (hg : tk_g vals rads v u) (h : tk_fits env f v = true) : tk_fv ro reg ads tw t i f u ∧ ((v.1 = 0 ∧ ∃ x : Int32, u = .int x ∧ tk_num vals v = some x.toInt) ∨ (v.1 = 1 ∧ ∃ x : Int64, u = .long x ∧ tk_num vals v = some x.toInt)) := by
  unfold tk_fits at h
  unfold tk_fv
  split at h
  · next e =>
    rw [e]
    rw [Bool.and_eq_true, beq_iff_eq] at h
    obtain ⟨x, rfl, hx⟩ := tk_g0 hg h.1
    have h2 := h.2
    split at h2
    · next I hI =>
      have b := tk_iv_ok hE hx hI
      rw [Bool.and_eq_true, decide_eq_true_eq, decide_eq_true_eq] at h2
      exact ⟨⟨x, rfl, by omega, by omega⟩, Or.inl ⟨h.1, x, rfl, hx⟩⟩
    · cases h2
  · next e =>
    rw [e]
    rw [Bool.and_eq_true, beq_iff_eq] at h
    obtain ⟨x, rfl, hx⟩ := tk_g1 hg h.1
    have h2 := h.2
    split at h2
    · next I hI =>
      have b := tk_iv_ok hE hx hI
      rw [Bool.and_eq_true, decide_eq_true_eq, decide_eq_true_eq] at h2
      exact ⟨⟨x, rfl, by omega, by omega⟩, Or.inr ⟨h.1, x, rfl, hx⟩⟩
    · cases h2
  · cases h
/-- a fact stays where an array is written -/
theorem tk_fk_arr {vals : List Int} {rads : List Nat} {ws : va_W} {q : Nat × Nat × tk_V} {j x : Nat} {cA : ClassId} {z : vp_A} (e' : va_E) (hw : ws[j]? = some (x, .inl (cA, z))) (h : tk_fk vals rads ws q) : tk_fk vals rads (ws.set j (x, e')) q := by
  obtain ⟨y, j', ci, vs, v, h1, h2, h3, h4⟩ := h
  have hne : ¬ j = j' := by
    intro z
    subst z
    rw [hw] at h2
    cases h2
  exact ⟨y, j', ci, vs, v, h1, by rw [List.getElem?_set_ne hne]; exact h2, h3, h4⟩
def tk_f_sa0 (TY : List tk_TY) (pc : Nat) : tk_Fn := fun st => match st.2.1 with
  | v :: ix :: a :: r => if a.1 = 2 ∧ ix.1 = 0 ∧ v.1 = 0 then (match st.2.2.2.1[a.2.1]? with
    | some t => (match TY[t]? with
      | some (.inr (.int, n, f)) => if tk_ix st.2.2.1.1 ix n = true ∧ tk_fits st.2.2.1.1 f v = true then some [(pc, (st.1, r, st.2.2))] else none
      | _ => none)
    | none => none) else none
  | _ => none
set_option maxHeartbeats 2000000 in
theorem tk_sa0_ok (hx : p.tables.exec = Jvm.exec) (hb : c.code = cc) (hF : rk_Fr s m args meth D cl Ad tbl xw fty cln own lk cs) {pc : Nat} {st : tk_S} {res : List (Nat × tk_S)} (hdg : decode cc pc = .ok (.iastore, 1)) (h : tk_f_sa0 TY (pc + 1) st = some res) (kk : ∀ q ∈ res, tk_St (rk_KW p l e R s m args below meth c Q) nL (tk_hr mods ws0 TY ro reg ads tw s D cl Ad vals0 rads0) q.1 q.2) : tk_St (rk_KW p l e R s m args below meth c Q) nL (tk_hr mods ws0 TY ro reg ads tw s D cl Ad vals0 rads0) pc st := by
  obtain ⟨hts, hxw, hown, hK, hA, hcl, hlk, hini, hac, hcs⟩ := hF
  obtain ⟨lo, sk, w, rf, fa⟩ := st
  intro vals rads H locs ls stk lc hH hR hl hL hS
  dsimp only at hH hR hL hS
  unfold tk_f_sa0 at h
  split at h
  · next v0 ix a r e1 =>
    dsimp only at e1
    subst e1
    split at h
    · next hk =>
      split at h
      · next t ht =>
        split at h
        · next n f hT =>
          split at h
          · next hix =>
              cases h
              dsimp only at ht
              obtain ⟨vv, kz, rfl, gv, hSz⟩ := hS.cons
              obtain ⟨vi, k0, rfl, gi, hS0⟩ := hSz.cons
              obtain ⟨va, k1, rfl, hg, hS1⟩ := hS0.cons
              obtain ⟨xi, rfl, hxi⟩ := tk_g0 gi hk.2.1
              obtain ⟨x, hax, rfl⟩ := tk_g2 hg hk.1
              obtain ⟨y, rfl, hyn⟩ := tk_g0 gv hk.2.2
              obtain ⟨hv0, hr0, h3, ws, h4, h5, h6, h7, h8, hun, h9⟩ := id hR
              obtain ⟨x', hax', hty⟩ := h3.get ht
              rw [hax] at hax'
              cases hax'
              obtain ⟨j, e1, hw, hj, hc1⟩ := tk_cell h4 h5 hty
              unfold tk_cl at hc1
              rw [hT] at hc1
              obtain ⟨cA, hA1, hA2, g, rfl, hf⟩ := hc1
              obtain ⟨hin, hlt, hti⟩ := tk_ix_ok hH.1 hxi hix.1
              have hfv := tk_fits_ok (ro := ro) (reg := reg) (ads := ads) (tw := tw) t xi.toNatClampNeg hH.1 gv hix.2
              refine va_iast hx hb (rk_K1 hK hA1 hA2) h6 h7 h8 j 0 hw rfl hin hdg (fun H1 locs1 hP1 hD1 hS1' => ?_)
              refine kk _ (List.mem_singleton.mpr rfl) vals rads H1 locs1 ls _ lc hH ⟨hv0, hr0, h3, _, by rw [rk_map_set hw]; exact h4, tk_A2_setR ?_ h5 hj, hP1, hD1, hS1', tk_un_tr hun (tk_un_arr (mods := mods) _ hw) (fun _ h => h), fun z hz => tk_fk_arr _ hw (h9 z hz)⟩ hl hL hS1
              show tk_cl TY ro reg ads tw s t _
              unfold tk_cl
              rw [hT]
              refine ⟨cA, hA1, hA2, _, rfl, fun i hi => ?_⟩
              by_cases ei : xi.toNatClampNeg = i
              · subst ei
                rw [pk_us]
                exact hfv.1
              · rw [pk_un (Ne.symm ei)]
                exact hf i hi
          · cases h
        · cases h
      · cases h
    · cases h
  · cases h
def tk_f_sa1 (TY : List tk_TY) (pc : Nat) : tk_Fn := fun st => match st.2.1 with
  | v :: ix :: a :: r => if a.1 = 2 ∧ ix.1 = 0 ∧ v.1 = 0 then (match st.2.2.2.1[a.2.1]? with
    | some t => (match TY[t]? with
      | some (.inr (.byte, n, f)) => if tk_ix st.2.2.1.1 ix n = true ∧ tk_fits st.2.2.1.1 f v = true ∧ -128 ≤ f.2.1 ∧ f.2.2 ≤ 127 then some [(pc, (st.1, r, st.2.2))] else none
      | _ => none)
    | none => none) else none
  | _ => none
set_option maxHeartbeats 2000000 in
theorem tk_sa1_ok (hx : p.tables.exec = Jvm.exec) (hb : c.code = cc) (hF : rk_Fr s m args meth D cl Ad tbl xw fty cln own lk cs) {pc : Nat} {st : tk_S} {res : List (Nat × tk_S)} (hdg : decode cc pc = .ok (.bastore, 1)) (h : tk_f_sa1 TY (pc + 1) st = some res) (kk : ∀ q ∈ res, tk_St (rk_KW p l e R s m args below meth c Q) nL (tk_hr mods ws0 TY ro reg ads tw s D cl Ad vals0 rads0) q.1 q.2) : tk_St (rk_KW p l e R s m args below meth c Q) nL (tk_hr mods ws0 TY ro reg ads tw s D cl Ad vals0 rads0) pc st := by
  obtain ⟨hts, hxw, hown, hK, hA, hcl, hlk, hini, hac, hcs⟩ := hF
  obtain ⟨lo, sk, w, rf, fa⟩ := st
  intro vals rads H locs ls stk lc hH hR hl hL hS
  dsimp only at hH hR hL hS
  unfold tk_f_sa1 at h
  split at h
  · next v0 ix a r e1 =>
    dsimp only at e1
    subst e1
    split at h
    · next hk =>
      split at h
      · next t ht =>
        split at h
        · next n f hT =>
          split at h
          · next hix =>
              cases h
              dsimp only at ht
              obtain ⟨vv, kz, rfl, gv, hSz⟩ := hS.cons
              obtain ⟨vi, k0, rfl, gi, hS0⟩ := hSz.cons
              obtain ⟨va, k1, rfl, hg, hS1⟩ := hS0.cons
              obtain ⟨xi, rfl, hxi⟩ := tk_g0 gi hk.2.1
              obtain ⟨x, hax, rfl⟩ := tk_g2 hg hk.1
              obtain ⟨y, rfl, hyn⟩ := tk_g0 gv hk.2.2
              obtain ⟨hv0, hr0, h3, ws, h4, h5, h6, h7, h8, hun, h9⟩ := id hR
              obtain ⟨x', hax', hty⟩ := h3.get ht
              rw [hax] at hax'
              cases hax'
              obtain ⟨j, e1, hw, hj, hc1⟩ := tk_cell h4 h5 hty
              unfold tk_cl at hc1
              rw [hT] at hc1
              obtain ⟨cA, hA1, hA2, g, rfl, hf⟩ := hc1
              obtain ⟨hin, hlt, hti⟩ := tk_ix_ok hH.1 hxi hix.1
              have hfv := tk_fits_ok (ro := ro) (reg := reg) (ads := ads) (tw := tw) t xi.toNatClampNeg hH.1 gv hix.2.1
              have hy : vp_nar .byte y = y := by
                rw [vp_nar_byte]
                apply Int32.toInt_inj.mp
                rw [Int8.toInt_toInt32, Int32.toInt_toInt8]
                have hb1 : f.2.1 ≤ y.toInt ∧ y.toInt ≤ f.2.2 := by
                  have hb0 := hfv.1
                  have hbf := hix.2.1
                  unfold tk_fits at hbf
                  split at hbf
                  · rw [Bool.and_eq_true] at hbf
                    have hbf := hbf.2
                    split at hbf
                    · next I hI =>
                      have b := tk_iv_ok hH.1 hyn hI
                      rw [Bool.and_eq_true, decide_eq_true_eq, decide_eq_true_eq] at hbf
                      omega
                    · cases hbf
                  · rw [Bool.and_eq_true, beq_iff_eq] at hbf
                    exact absurd (hk.2.2.symm.trans hbf.1) (by decide)
                  · cases hbf
                exact Int.bmod_eq_of_le (by omega) (by omega)
              refine va_bast hx hb (rk_K1 hK hA1 hA2) h6 h7 h8 j 0 hw rfl hin hdg (fun H1 locs1 hP1 hD1 hS1' => ?_)
              rw [hy] at hP1 hD1
              refine kk _ (List.mem_singleton.mpr rfl) vals rads H1 locs1 ls _ lc hH ⟨hv0, hr0, h3, _, by rw [rk_map_set hw]; exact h4, tk_A2_setR ?_ h5 hj, hP1, hD1, hS1', tk_un_tr hun (tk_un_arr (mods := mods) _ hw) (fun _ h => h), fun z hz => tk_fk_arr _ hw (h9 z hz)⟩ hl hL hS1
              show tk_cl TY ro reg ads tw s t _
              unfold tk_cl
              rw [hT]
              refine ⟨cA, hA1, hA2, _, rfl, fun i hi => ?_⟩
              by_cases ei : xi.toNatClampNeg = i
              · subst ei
                rw [pk_us]
                exact hfv.1
              · rw [pk_un (Ne.symm ei)]
                exact hf i hi
          · cases h
        · cases h
      · cases h
    · cases h
  · cases h
def tk_f_sa2 (TY : List tk_TY) (pc : Nat) : tk_Fn := fun st => match st.2.1 with
  | v :: ix :: a :: r => if a.1 = 2 ∧ ix.1 = 0 ∧ v.1 = 1 then (match st.2.2.2.1[a.2.1]? with
    | some t => (match TY[t]? with
      | some (.inr (.long, n, f)) => if tk_ix st.2.2.1.1 ix n = true ∧ tk_fits st.2.2.1.1 f v = true then some [(pc, (st.1, r, st.2.2))] else none
      | _ => none)
    | none => none) else none
  | _ => none
set_option maxHeartbeats 2000000 in
theorem tk_sa2_ok (hx : p.tables.exec = Jvm.exec) (hb : c.code = cc) (hF : rk_Fr s m args meth D cl Ad tbl xw fty cln own lk cs) {pc : Nat} {st : tk_S} {res : List (Nat × tk_S)} (hdg : decode cc pc = .ok (.lastore, 1)) (h : tk_f_sa2 TY (pc + 1) st = some res) (kk : ∀ q ∈ res, tk_St (rk_KW p l e R s m args below meth c Q) nL (tk_hr mods ws0 TY ro reg ads tw s D cl Ad vals0 rads0) q.1 q.2) : tk_St (rk_KW p l e R s m args below meth c Q) nL (tk_hr mods ws0 TY ro reg ads tw s D cl Ad vals0 rads0) pc st := by
  obtain ⟨hts, hxw, hown, hK, hA, hcl, hlk, hini, hac, hcs⟩ := hF
  obtain ⟨lo, sk, w, rf, fa⟩ := st
  intro vals rads H locs ls stk lc hH hR hl hL hS
  dsimp only at hH hR hL hS
  unfold tk_f_sa2 at h
  split at h
  · next v0 ix a r e1 =>
    dsimp only at e1
    subst e1
    split at h
    · next hk =>
      split at h
      · next t ht =>
        split at h
        · next n f hT =>
          split at h
          · next hix =>
              cases h
              dsimp only at ht
              obtain ⟨vv, kz, rfl, gv, hSz⟩ := hS.cons
              obtain ⟨vi, k0, rfl, gi, hS0⟩ := hSz.cons
              obtain ⟨va, k1, rfl, hg, hS1⟩ := hS0.cons
              obtain ⟨xi, rfl, hxi⟩ := tk_g0 gi hk.2.1
              obtain ⟨x, hax, rfl⟩ := tk_g2 hg hk.1
              obtain ⟨y, rfl, hyn⟩ := tk_g1 gv hk.2.2
              obtain ⟨hv0, hr0, h3, ws, h4, h5, h6, h7, h8, hun, h9⟩ := id hR
              obtain ⟨x', hax', hty⟩ := h3.get ht
              rw [hax] at hax'
              cases hax'
              obtain ⟨j, e1, hw, hj, hc1⟩ := tk_cell h4 h5 hty
              unfold tk_cl at hc1
              rw [hT] at hc1
              obtain ⟨cA, hA1, hA2, g, rfl, hf⟩ := hc1
              obtain ⟨hin, hlt, hti⟩ := tk_ix_ok hH.1 hxi hix.1
              have hfv := tk_fits_ok (ro := ro) (reg := reg) (ads := ads) (tw := tw) t xi.toNatClampNeg hH.1 gv hix.2
              refine va_last hx hb (rk_K1 hK hA1 hA2) h6 h7 h8 j 0 hw rfl hin hdg (fun H1 locs1 hP1 hD1 hS1' => ?_)
              refine kk _ (List.mem_singleton.mpr rfl) vals rads H1 locs1 ls _ lc hH ⟨hv0, hr0, h3, _, by rw [rk_map_set hw]; exact h4, tk_A2_setR ?_ h5 hj, hP1, hD1, hS1', tk_un_tr hun (tk_un_arr (mods := mods) _ hw) (fun _ h => h), fun z hz => tk_fk_arr _ hw (h9 z hz)⟩ hl hL hS1
              show tk_cl TY ro reg ads tw s t _
              unfold tk_cl
              rw [hT]
              refine ⟨cA, hA1, hA2, _, rfl, fun i hi => ?_⟩
              by_cases ei : xi.toNatClampNeg = i
              · subst ei
                rw [pk_uLs]
                exact hfv.1
              · rw [pk_uLn (Ne.symm ei)]
                exact hf i hi
          · cases h
        · cases h
      · cases h
    · cases h
  · cases h
end TKJ
