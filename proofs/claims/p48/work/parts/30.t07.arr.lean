/-! ===== tk: arrays: loads, lengths ===== -/
theorem tk_A2_setR {α β : Type} {R : α → β → Prop} {a : α} {b : β} (hr : R a b) : ∀ {l : List α} {l' : List β}, rk_A2 R l l' → ∀ {j : Nat}, l[j]? = some a → rk_A2 R l (l'.set j b) := by
  intro l
  induction l with
  | nil => intro l' h j hj; simp at hj
  | cons x l ih =>
    intro l' h j hj
    cases l' with
    | nil => exact h.elim
    | cons y l' =>
      cases j with
      | zero => simp at hj; subst hj; exact ⟨hr, h.2⟩
      | succ j => simp at hj; exact ⟨h.1, ih h.2 hj⟩
/-- an index within -/
def tk_ix (env : List tk_I) (ix : tk_V) (n : Nat) : Bool := match tk_iv env ix with
  | some I => decide (0 ≤ I.1) && decide (I.2 < (n : Int))
  | none => false
theorem tk_ix_ok {env : List tk_I} {vals : List Int} {ix : tk_V} {x : Int32} {n : Nat} (hE : tk_E env vals) (hn : tk_num vals ix = some x.toInt) (h : tk_ix env ix n = true) : vp_in x n ∧ x.toNatClampNeg < n ∧ (x.toNatClampNeg : Int) = x.toInt := by
  unfold tk_ix at h
  split at h
  · next I hI =>
    have b := tk_iv_ok hE hn hI
    rw [Bool.and_eq_true, decide_eq_true_eq, decide_eq_true_eq] at h
    have e : x.toNatClampNeg = x.toInt.toNat := rfl
    exact ⟨vp_in_iff.mpr ⟨by omega, by omega⟩, by omega, by omega⟩
  · cases h
/-- what g says of all places that an index may be -/
def tk_rgu (g : Nat → tk_I) (fac : Nat) (off : Int) : Nat → Int → tk_I → tk_I
  | 0, _, acc => acc
  | n + 1, z, acc => tk_rgu g fac off n (z + 1) (min acc.1 (g ((fac : Int) * z + off).toNat).1, max acc.2 (g ((fac : Int) * z + off).toNat).2)
theorem tk_rgu_ok (g : Nat → tk_I) (fac : Nat) (off : Int) : ∀ (n : Nat) (z : Int) (acc : tk_I), ((tk_rgu g fac off n z acc).1 ≤ acc.1 ∧ acc.2 ≤ (tk_rgu g fac off n z acc).2) ∧ ∀ y : Int, z ≤ y → y < z + n → (tk_rgu g fac off n z acc).1 ≤ (g ((fac : Int) * y + off).toNat).1 ∧ (g ((fac : Int) * y + off).toNat).2 ≤ (tk_rgu g fac off n z acc).2 := by
  intro n
  induction n with
  | zero => intro z acc; exact ⟨⟨Int.le_refl _, Int.le_refl _⟩, fun y h1 h2 => by omega⟩
  | succ n ih =>
    intro z acc
    obtain ⟨⟨i1, i2⟩, i3⟩ := ih (z + 1) (min acc.1 (g ((fac : Int) * z + off).toNat).1, max acc.2 (g ((fac : Int) * z + off).toNat).2)
    dsimp only at i1 i2
    unfold tk_rgu
    refine ⟨⟨by omega, by omega⟩, fun y h1 h2 => ?_⟩
    by_cases e : y = z
    · subst e
      constructor <;> omega
    · exact i3 y (by omega) (by omega)
def tk_rgI (g : Nat → tk_I) (env : List tk_I) (ix : tk_V) : Option tk_I := match ix.2.1 with
  | 0 => some (g ix.2.2.2.toNat)
  | k + 1 => match env[k]? with
    | some J => if J.2 - J.1 ≤ 1000 then some (tk_rgu g ix.2.2.1 ix.2.2.2 (J.2 - J.1).toNat (J.1 + 1) (g ((ix.2.2.1 : Int) * J.1 + ix.2.2.2).toNat)) else none
    | none => none
theorem tk_rgI_ok {g : Nat → tk_I} {env : List tk_I} {vals : List Int} {ix : tk_V} {i : Nat} {I : tk_I} (hE : tk_E env vals) (hn : tk_num vals ix = some (i : Int)) (h : tk_rgI g env ix = some I) : I.1 ≤ (g i).1 ∧ (g i).2 ≤ I.2 := by
  unfold tk_rgI at h
  unfold tk_num at hn
  split at h
  · next e =>
    rw [e] at hn
    have hn : ix.2.2.2 = (i : Int) := Option.some.inj hn
    cases h
    rw [hn]
    exact ⟨Int.le_refl _, Int.le_refl _⟩
  · next k e =>
    rw [e] at hn
    dsimp only at hn
    split at h
    · next J hJ =>
      split at h
      · cases h
        obtain ⟨z, hz, z1, z2⟩ := hE.get hJ
        rw [hz] at hn
        have hn : (ix.2.2.1 : Int) * z + ix.2.2.2 = (i : Int) := Option.some.inj hn
        obtain ⟨⟨u1, u2⟩, u3⟩ := tk_rgu_ok g ix.2.2.1 ix.2.2.2 (J.2 - J.1).toNat (J.1 + 1) (g ((ix.2.2.1 : Int) * J.1 + ix.2.2.2).toNat)
        have ei : ((ix.2.2.1 : Int) * z + ix.2.2.2).toNat = i := by rw [hn]; rfl
        by_cases e0 : z = J.1
        · rw [← e0, ei] at u1 u2
          rw [← e0, ei]
          exact ⟨u1, u2⟩
        · have := u3 z (by omega) (by omega)
          rw [ei] at this
          exact this
      · cases h
    · cases h
def tk_rpu (P : Nat → Bool) (fac : Nat) (off : Int) : Nat → Int → Bool
  | 0, _ => true
  | n + 1, z => P ((fac : Int) * z + off).toNat && tk_rpu P fac off n (z + 1)
theorem tk_rpu_ok (P : Nat → Bool) (fac : Nat) (off : Int) : ∀ (n : Nat) (z : Int), tk_rpu P fac off n z = true → ∀ y : Int, z ≤ y → y < z + n → P ((fac : Int) * y + off).toNat = true := by
  intro n
  induction n with
  | zero => intro z _ y h1 h2; omega
  | succ n ih =>
    intro z h y h1 h2
    unfold tk_rpu at h
    rw [Bool.and_eq_true] at h
    by_cases e : y = z
    · subst e; exact h.1
    · exact ih (z + 1) h.2 y (by omega) (by omega)
def tk_rgP (P : Nat → Bool) (env : List tk_I) (ix : tk_V) : Bool := match ix.2.1 with
  | 0 => P ix.2.2.2.toNat
  | k + 1 => match env[k]? with
    | some J => decide (J.2 - J.1 ≤ 1000) && tk_rpu P ix.2.2.1 ix.2.2.2 (J.2 - J.1 + 1).toNat J.1
    | none => false
theorem tk_rgP_ok {P : Nat → Bool} {env : List tk_I} {vals : List Int} {ix : tk_V} {i : Nat} (hE : tk_E env vals) (hn : tk_num vals ix = some (i : Int)) (h : tk_rgP P env ix = true) : P i = true := by
  unfold tk_rgP at h
  unfold tk_num at hn
  split at h
  · next e =>
    rw [e] at hn
    have hn : ix.2.2.2 = (i : Int) := Option.some.inj hn
    rw [hn] at h
    exact h
  · next k e =>
    rw [e] at hn
    dsimp only at hn
    split at h
    · next J hJ =>
      rw [Bool.and_eq_true] at h
      obtain ⟨z, hz, z1, z2⟩ := hE.get hJ
      rw [hz] at hn
      have hn : (ix.2.2.1 : Int) * z + ix.2.2.2 = (i : Int) := Option.some.inj hn
      have := tk_rpu_ok P ix.2.2.1 ix.2.2.2 _ _ h.2 z (by omega) (by omega)
      have ei : ((ix.2.2.1 : Int) * z + ix.2.2.2).toNat = i := by rw [hn]; rfl
      rw [ei] at this
      exact this
    · cases h
/-- what is loaded of an element; places of kind 3 by their place -/
def tk_nx (reg : Nat → Nat → tk_I) (w : tk_W) (rf : List Nat) (ix : tk_V) (f : tk_F) : Option (tk_V × tk_W × List Nat) := cond (Nat.beq f.1 3) (match tk_rgI (reg f.2.1.toNat) w.1 ix with
  | some I => some ((tk_new w.1 0 I).1, ((tk_new w.1 0 I).2, w.2), rf)
  | none => none) (tk_nw w rf f)
theorem tk_nx_ok {ro : Nat → Nat → Int → Prop} {reg : Nat → Nat → tk_I} {ads tw : List Nat} {w : tk_W} {rf : List Nat} {ix : tk_V} {f : tk_F} {q : tk_V × tk_W × List Nat} {vals : List Int} {rads : List Nat} {t i : Nat} {v : Value} (hH : tk_H w vals) (h3 : rk_A2 (fun t y => tk_ty ads tw t y) rf rads) (hn : tk_num vals ix = some (i : Int)) (hv : tk_fv ro reg ads tw t i f v) (h : tk_nx reg w rf ix f = some q) : ∃ l r, tk_H q.2.1 (vals ++ l) ∧ rk_A2 (fun t y => tk_ty ads tw t y) q.2.2 (rads ++ r) ∧ tk_g (vals ++ l) (rads ++ r) q.1 v := by
  unfold tk_nx at h
  cases hb : Nat.beq f.1 3 with
  | false => rw [hb] at h; exact tk_nw_ok hH h3 hv h
  | true =>
    rw [hb] at h
    have e := Nat.eq_of_beq_eq_true hb
    dsimp only [cond] at h
    split at h
    · next I hI =>
      cases h
      unfold tk_fv at hv
      rw [e] at hv
      obtain ⟨x, rfl, x1, x2⟩ := hv
      have b := tk_rgI_ok hH.1 hn hI
      have h1 : I.1 ≤ x.toInt := by omega
      have h2 : x.toInt ≤ I.2 := by omega
      obtain ⟨-, l, hE, hnn⟩ := tk_new_ok 0 hH.1 h1 h2
      exact ⟨l, [], ⟨hE, tk_C_grow l hH.2⟩, by rw [List.append_nil]; exact h3, tk_gi (tk_new_ok 0 hH.1 h1 h2).1 hnn⟩
    · cases h
/-- the type of a reference may go by its place -/
def tk_fi (ix : tk_V) (f : tk_F) : Option tk_F := cond (Nat.beq f.1 2 && !(decide (f.2.2 = 0))) (cond (Nat.beq ix.2.1 0) (some (2, ((f.2.1.toNat + ix.2.2.2.toNat * f.2.2.toNat : Nat) : Int), 0)) none) (some f)
theorem tk_fi_ok {ro : Nat → Nat → Int → Prop} {reg : Nat → Nat → tk_I} {ads tw : List Nat} {vals : List Int} {t i : Nat} {ix : tk_V} {f f' : tk_F} {v : Value} (hn : tk_num vals ix = some (i : Int)) (hv : tk_fv ro reg ads tw t i f v) (h : tk_fi ix f = some f') : tk_fv ro reg ads tw t i f' v := by
  unfold tk_fi at h
  cases hb : (Nat.beq f.1 2 && !(decide (f.2.2 = 0))) with
  | false => rw [hb] at h; cases h; exact hv
  | true =>
    rw [hb] at h
    rw [Bool.and_eq_true] at hb
    have e := Nat.eq_of_beq_eq_true hb.1
    dsimp only [cond] at h
    cases h0 : Nat.beq ix.2.1 0 with
    | false => rw [h0] at h; cases h
    | true =>
      rw [h0] at h
      cases h
      have e0 := Nat.eq_of_beq_eq_true h0
      unfold tk_num at hn
      rw [e0] at hn
      have hn : ix.2.2.2 = (i : Int) := Option.some.inj hn
      unfold tk_fv at hv ⊢
      rw [e] at hv
      obtain ⟨y, rfl, hy⟩ := hv
      refine ⟨y, rfl, ?_⟩
      rw [hn]
      show tk_ty ads tw ((((f.2.1.toNat + ((i : Nat) : Int).toNat * f.2.2.toNat : Nat) : Int)).toNat + i * (0 : Int).toNat) y
      rw [Int.toNat_natCast, Int.toNat_natCast, Int.toNat_zero, Nat.mul_zero, Nat.add_zero]
      exact hy
def tk_f_len (TY : tk_TT) (pc : Nat) : tk_Fn := fun st => match st.2.1 with
  | a :: r => if a.1 = 2 then (match st.2.2.2.1[a.2.1]? with
    | some t => (match TY.1[t]? with
      | some (.inr q) => if q.2.1 < 2147483648 then some [(pc, (st.1, (0, 0, 0, (q.2.1 : Int)) :: r, st.2.2))] else none
      | _ => none)
    | none => none) else none
  | _ => none
def tk_f_ld0 (TY : tk_TT) (pc : Nat) : tk_Fn := fun st => match st.2.1 with
  | ix :: a :: r => if a.1 = 2 ∧ ix.1 = 0 then (match st.2.2.2.1[a.2.1]? with
    | some t => (match TY.1[t]? with
      | some (.inr (.int, n, f)) => if tk_ix st.2.2.1.1 ix n = true then (match cond (Nat.beq f.1 3) (tk_fl st.2.2.2.2 a.2.1 ix) none with
        | some v => some [(pc, (st.1, tk_nm st.2.2.1.1 v :: r, st.2.2))]
        | none => (match tk_nx TY.2.1 st.2.2.1 st.2.2.2.1 ix f with
          | some q => some [(pc, (st.1, q.1 :: r, q.2.1, q.2.2, cond (Nat.beq f.1 3) ((a.2.1, ix, q.1) :: st.2.2.2.2) st.2.2.2.2))]
          | none => none)) else none
      | _ => none)
    | none => none) else none
  | _ => none
def tk_f_ld1 (TY : tk_TT) (pc : Nat) : tk_Fn := fun st => match st.2.1 with
  | ix :: a :: r => if a.1 = 2 ∧ ix.1 = 0 then (match st.2.2.2.1[a.2.1]? with
    | some t => (match TY.1[t]? with
      | some (.inr (.byte, n, f)) => if tk_ix st.2.2.1.1 ix n = true then (match tk_nw st.2.2.1 st.2.2.2.1 f with
        | some q => some [(pc, (st.1, q.1 :: r, q.2.1, q.2.2, st.2.2.2.2))]
        | none => none) else none
      | _ => none)
    | none => none) else none
  | _ => none
def tk_f_ld2 (TY : tk_TT) (pc : Nat) : tk_Fn := fun st => match st.2.1 with
  | ix :: a :: r => if a.1 = 2 ∧ ix.1 = 0 then (match st.2.2.2.1[a.2.1]? with
    | some t => (match TY.1[t]? with
      | some (.inr (.long, n, f)) => if tk_ix st.2.2.1.1 ix n = true then (match cond (Nat.beq f.1 6) (tk_fl st.2.2.2.2 a.2.1 ix) none with
        | some v => some [(pc, (st.1, tk_nm st.2.2.1.1 v :: r, st.2.2))]
        | none => (match tk_nw st.2.2.1 st.2.2.2.1 f with
          | some q => some [(pc, (st.1, q.1 :: r, q.2.1, q.2.2, cond (Nat.beq f.1 6) ((a.2.1, ix, q.1) :: st.2.2.2.2) st.2.2.2.2))]
          | none => none)) else none
      | _ => none)
    | none => none) else none
  | _ => none
def tk_f_ld3 (TY : tk_TT) (pc : Nat) : tk_Fn := fun st => match st.2.1 with
  | ix :: a :: r => if a.1 = 2 ∧ ix.1 = 0 then (match st.2.2.2.1[a.2.1]? with
    | some t => (match TY.1[t]? with
      | some (.inr (.object _, n, f)) => if tk_ix st.2.2.1.1 ix n = true then (match cond (Nat.beq f.1 2 && !(decide (f.2.2 = 0))) (tk_fl st.2.2.2.2 a.2.1 ix) none with
        | some v => some [(pc, (st.1, tk_nm st.2.2.1.1 v :: r, st.2.2))]
        | none => (match tk_fi ix f with
          | some f1 => (match tk_nw st.2.2.1 st.2.2.2.1 f1 with
            | some q => some [(pc, (st.1, q.1 :: r, q.2.1, q.2.2, cond (Nat.beq f.1 2 && !(decide (f.2.2 = 0))) ((a.2.1, ix, q.1) :: st.2.2.2.2) st.2.2.2.2))]
            | none => none)
          | none => none)) else none
      | _ => none)
    | none => none) else none
  | _ => none
def tk_f_ld4 (TY : tk_TT) (pc : Nat) : tk_Fn := fun st => match st.2.1 with
  | ix :: a :: r => if a.1 = 2 ∧ ix.1 = 0 then (match st.2.2.2.1[a.2.1]? with
    | some t => (match TY.1[t]? with
      | some (.inr (.array _, n, f)) => if tk_ix st.2.2.1.1 ix n = true then (match cond (Nat.beq f.1 2 && !(decide (f.2.2 = 0))) (tk_fl st.2.2.2.2 a.2.1 ix) none with
        | some v => some [(pc, (st.1, tk_nm st.2.2.1.1 v :: r, st.2.2))]
        | none => (match tk_fi ix f with
          | some f1 => (match tk_nw st.2.2.1 st.2.2.2.1 f1 with
            | some q => some [(pc, (st.1, q.1 :: r, q.2.1, q.2.2, cond (Nat.beq f.1 2 && !(decide (f.2.2 = 0))) ((a.2.1, ix, q.1) :: st.2.2.2.2) st.2.2.2.2))]
            | none => none)
          | none => none)) else none
      | _ => none)
    | none => none) else none
  | _ => none
section TKJ
variable {p : Program} {l : Launch} {e : Env} {R : Room} {s : State} {m : MethodId} {args : Array Value} {below : List Frame} {meth : Method} {c : Code} {Q : State → Prop} {cc : ByteArray} {D : va_G} {cl : List vw_C} {Ad : Nat → Prop} {nL : Nat} {vals0 : List Int} {rads0 : List Nat}
variable {mods : List (Nat × Nat)} {ws0 : va_W} {tbl xw : List Jvm.Cond} {fty : rk_F} {cln : List String} {own : String} {lk : List (Nat × Nat × Nat × Nat)} {cs : List (Nat × Value)} {TY : tk_TT} {ro : Nat → Nat → Int → Prop} {X : va_W → Prop} {ads tw : List Nat}
set_option maxHeartbeats 2000000 in
theorem tk_ld0_ok (hx : p.tables.exec = Jvm.exec) (hb : c.code = cc) (hF : rk_Fr s m args meth D cl Ad tbl xw fty cln own lk cs) {pc : Nat} {st : tk_S} {res : List (Nat × tk_S)} (hdg : decode cc pc = .ok (.iaload, 1)) (h : tk_f_ld0 TY (pc + 1) st = some res) (kk : ∀ q ∈ res, tk_St (rk_KW p l e R s m args below meth c Q) nL (tk_hr mods ws0 TY ro X ads tw s D cl Ad vals0 rads0) q.1 q.2) : tk_St (rk_KW p l e R s m args below meth c Q) nL (tk_hr mods ws0 TY ro X ads tw s D cl Ad vals0 rads0) pc st := by
  obtain ⟨hts, hxw, hown, hK, hA, hcl, hlk, hini, hac, hcs⟩ := hF
  obtain ⟨lo, sk, w, rf, fa⟩ := st
  intro vals rads H locs ls stk lc hH hR hl hL hS
  dsimp only at hH hR hL hS
  unfold tk_f_ld0 at h
  split at h
  · next ix a r e1 =>
    dsimp only at e1
    subst e1
    split at h
    · next hk =>
      split at h
      · next t ht =>
        split at h
        · next n f hT =>
          split at h
          · next hix =>
            dsimp only at ht
            obtain ⟨vi, k0, rfl, gi, hS0⟩ := hS.cons
            obtain ⟨va, k1, rfl, hg, hS1⟩ := hS0.cons
            obtain ⟨xi, rfl, hxi⟩ := tk_g0 gi hk.2
            obtain ⟨x, hax, rfl⟩ := tk_g2 hg hk.1
            obtain ⟨hv0, hr0, h3, ws, h4, h5, h6, h7, h8, hun, h9⟩ := id hR
            obtain ⟨x', hax', hty⟩ := h3.get ht
            rw [hax] at hax'
            cases hax'
            obtain ⟨j, e1, hw, hj, hc1⟩ := tk_cell h4 h5 hty
            unfold tk_cl at hc1
            rw [hT] at hc1
            obtain ⟨cA, hA1, hA2, g, rfl, hf⟩ := hc1
            obtain ⟨hin, hlt, hti⟩ := tk_ix_ok hH.1 hxi hix
            have hnn : tk_num vals ix = some ((xi.toNatClampNeg : Nat) : Int) := by rw [hti]; exact hxi
            have hp : tk_pos (.inl (cA, n, .inl g)) xi.toNatClampNeg = some (.int (g xi.toNatClampNeg)) := by
              show (if xi.toNatClampNeg < n then some (Value.int (g xi.toNatClampNeg)) else none) = _
              rw [if_pos hlt]
            split at h
            · next v0 hv0' =>
              cases h
              have hfl : tk_fl fa a.2.1 ix = some v0 := by
                cases hb : Nat.beq f.1 3 with
                | true => rw [hb] at hv0'; exact hv0'
                | false => rw [hb] at hv0'; cases hv0'
              obtain ⟨u, g3, g4⟩ := tk_fl_ok h9 h7 hfl hax hnn hw
              rw [hp] at g3
              obtain rfl := Option.some.inj g3
              refine va_iald hx hb (rk_K1 hK hA1 hA2) h6 j 0 hw rfl hin hdg ?_
              exact kk _ (List.mem_singleton.mpr rfl) vals rads H locs ls _ lc hH hR hl hL ⟨tk_nm_ok hH.1 g4, hS1⟩
            · split at h
              · next q hq =>
                cases h
                obtain ⟨l1, r1, q1, q2, q3⟩ := tk_nx_ok hH h3 hnn (hf _ hlt) hq
                obtain ⟨kv, hv0⟩ := hv0
                obtain ⟨kr, hr0⟩ := hr0
                refine va_iald hx hb (rk_K1 hK hA1 hA2) h6 j 0 hw rfl hin hdg ?_
                refine kk _ (List.mem_singleton.mpr rfl) (vals ++ l1) (rads ++ r1) H locs ls _ lc q1 ⟨⟨kv ++ l1, by rw [hv0, List.append_assoc]⟩, ⟨kr ++ r1, by rw [hr0, List.append_assoc]⟩, q2, ws, h4, h5, h6, h7, h8, hun, ?_⟩ hl (hL.grow l1 r1) ⟨q3, tk_skG hS1 l1 r1⟩
                have hold : ∀ z ∈ fa, tk_fk (vals ++ l1) (rads ++ r1) ws z := fun z hz => tk_fk_grow l1 r1 (h9 z hz)
                cases hb : Nat.beq f.1 3 with
                | true =>
                  intro z hz
                  rcases List.mem_cons.mp hz with rfl | hz
                  · exact ⟨x, j, xi.toNatClampNeg, _, _, by rw [List.getElem?_append_left (List.getElem?_eq_some_iff.mp hax).1]; exact hax, tk_num_grow l1 hnn, hw, hp, q3⟩
                  · exact hold z hz
                | false => exact hold
              · cases h
          · cases h
        · cases h
      · cases h
    · cases h
  · cases h
theorem tk_ld1_ok (hx : p.tables.exec = Jvm.exec) (hb : c.code = cc) (hF : rk_Fr s m args meth D cl Ad tbl xw fty cln own lk cs) {pc : Nat} {st : tk_S} {res : List (Nat × tk_S)} (hdg : decode cc pc = .ok (.baload, 1)) (h : tk_f_ld1 TY (pc + 1) st = some res) (kk : ∀ q ∈ res, tk_St (rk_KW p l e R s m args below meth c Q) nL (tk_hr mods ws0 TY ro X ads tw s D cl Ad vals0 rads0) q.1 q.2) : tk_St (rk_KW p l e R s m args below meth c Q) nL (tk_hr mods ws0 TY ro X ads tw s D cl Ad vals0 rads0) pc st := by
  obtain ⟨hts, hxw, hown, hK, hA, hcl, hlk, hini, hac, hcs⟩ := hF
  obtain ⟨lo, sk, w, rf, fa⟩ := st
  intro vals rads H locs ls stk lc hH hR hl hL hS
  dsimp only at hH hR hL hS
  unfold tk_f_ld1 at h
  split at h
  · next ix a r e1 =>
    dsimp only at e1
    subst e1
    split at h
    · next hk =>
      split at h
      · next t ht =>
        split at h
        · next n f hT =>
          split at h
          · next hix =>
            split at h
            · next q hq =>
              cases h
              dsimp only at ht
              obtain ⟨vi, k0, rfl, gi, hS0⟩ := hS.cons
              obtain ⟨va, k1, rfl, hg, hS1⟩ := hS0.cons
              obtain ⟨xi, rfl, hxi⟩ := tk_g0 gi hk.2
              obtain ⟨x, hax, rfl⟩ := tk_g2 hg hk.1
              obtain ⟨hv0, hr0, h3, ws, h4, h5, h6, h7, h8, hun, h9⟩ := id hR
              obtain ⟨x', hax', hty⟩ := h3.get ht
              rw [hax] at hax'
              cases hax'
              obtain ⟨j, e1, hw, hj, hc1⟩ := tk_cell h4 h5 hty
              unfold tk_cl at hc1
              rw [hT] at hc1
              obtain ⟨cA, hA1, hA2, g, rfl, hf⟩ := hc1
              obtain ⟨hin, hlt, hti⟩ := tk_ix_ok hH.1 hxi hix
              obtain ⟨l1, r1, q1, q2, q3⟩ := tk_nw_ok hH h3 (hf _ hlt) hq
              obtain ⟨kv, hv0⟩ := hv0
              obtain ⟨kr, hr0⟩ := hr0
              refine va_bald hx hb (rk_K1 hK hA1 hA2) h6 j 0 hw rfl hin hdg ?_
              exact kk _ (List.mem_singleton.mpr rfl) (vals ++ l1) (rads ++ r1) H locs ls _ lc q1 ⟨⟨kv ++ l1, by rw [hv0, List.append_assoc]⟩, ⟨kr ++ r1, by rw [hr0, List.append_assoc]⟩, q2, ws, h4, h5, h6, h7, h8, hun, fun z hz => tk_fk_grow l1 r1 (h9 z hz)⟩ hl (hL.grow l1 r1) ⟨q3, tk_skG hS1 l1 r1⟩
            · cases h
          · cases h
        · cases h
      · cases h
    · cases h
  · cases h
set_option maxHeartbeats 2000000 in
theorem tk_ld2_ok (hx : p.tables.exec = Jvm.exec) (hb : c.code = cc) (hF : rk_Fr s m args meth D cl Ad tbl xw fty cln own lk cs) {pc : Nat} {st : tk_S} {res : List (Nat × tk_S)} (hdg : decode cc pc = .ok (.laload, 1)) (h : tk_f_ld2 TY (pc + 1) st = some res) (kk : ∀ q ∈ res, tk_St (rk_KW p l e R s m args below meth c Q) nL (tk_hr mods ws0 TY ro X ads tw s D cl Ad vals0 rads0) q.1 q.2) : tk_St (rk_KW p l e R s m args below meth c Q) nL (tk_hr mods ws0 TY ro X ads tw s D cl Ad vals0 rads0) pc st := by
  obtain ⟨hts, hxw, hown, hK, hA, hcl, hlk, hini, hac, hcs⟩ := hF
  obtain ⟨lo, sk, w, rf, fa⟩ := st
  intro vals rads H locs ls stk lc hH hR hl hL hS
  dsimp only at hH hR hL hS
  unfold tk_f_ld2 at h
  split at h
  · next ix a r e1 =>
    dsimp only at e1
    subst e1
    split at h
    · next hk =>
      split at h
      · next t ht =>
        split at h
        · next n f hT =>
          split at h
          · next hix =>
            dsimp only at ht
            obtain ⟨vi, k0, rfl, gi, hS0⟩ := hS.cons
            obtain ⟨va, k1, rfl, hg, hS1⟩ := hS0.cons
            obtain ⟨xi, rfl, hxi⟩ := tk_g0 gi hk.2
            obtain ⟨x, hax, rfl⟩ := tk_g2 hg hk.1
            obtain ⟨hv0, hr0, h3, ws, h4, h5, h6, h7, h8, hun, h9⟩ := id hR
            obtain ⟨x', hax', hty⟩ := h3.get ht
            rw [hax] at hax'
            cases hax'
            obtain ⟨j, e1, hw, hj, hc1⟩ := tk_cell h4 h5 hty
            unfold tk_cl at hc1
            rw [hT] at hc1
            obtain ⟨cA, hA1, hA2, g, rfl, hf⟩ := hc1
            obtain ⟨hin, hlt, hti⟩ := tk_ix_ok hH.1 hxi hix
            have hnn : tk_num vals ix = some ((xi.toNatClampNeg : Nat) : Int) := by rw [hti]; exact hxi
            have hp : tk_pos (.inl (cA, n, .inr (.inl g))) xi.toNatClampNeg = some (.long (g xi.toNatClampNeg)) := by
              show (if xi.toNatClampNeg < n then some (Value.long (g xi.toNatClampNeg)) else none) = _
              rw [if_pos hlt]
            split at h
            · next v0 hv0' =>
              cases h
              have hfl : tk_fl fa a.2.1 ix = some v0 := by
                cases hb : Nat.beq f.1 6 with
                | true => rw [hb] at hv0'; exact hv0'
                | false => rw [hb] at hv0'; cases hv0'
              obtain ⟨u, g3, g4⟩ := tk_fl_ok h9 h7 hfl hax hnn hw
              rw [hp] at g3
              obtain rfl := Option.some.inj g3
              refine va_lald hx hb (rk_K1 hK hA1 hA2) h6 j 0 hw rfl hin hdg ?_
              exact kk _ (List.mem_singleton.mpr rfl) vals rads H locs ls _ lc hH hR hl hL ⟨tk_nm_ok hH.1 g4, hS1⟩
            · split at h
              · next q hq =>
                cases h
                obtain ⟨l1, r1, q1, q2, q3⟩ := tk_nw_ok hH h3 (hf _ hlt) hq
                obtain ⟨kv, hv0⟩ := hv0
                obtain ⟨kr, hr0⟩ := hr0
                refine va_lald hx hb (rk_K1 hK hA1 hA2) h6 j 0 hw rfl hin hdg ?_
                refine kk _ (List.mem_singleton.mpr rfl) (vals ++ l1) (rads ++ r1) H locs ls _ lc q1 ⟨⟨kv ++ l1, by rw [hv0, List.append_assoc]⟩, ⟨kr ++ r1, by rw [hr0, List.append_assoc]⟩, q2, ws, h4, h5, h6, h7, h8, hun, ?_⟩ hl (hL.grow l1 r1) ⟨q3, tk_skG hS1 l1 r1⟩
                have hold : ∀ z ∈ fa, tk_fk (vals ++ l1) (rads ++ r1) ws z := fun z hz => tk_fk_grow l1 r1 (h9 z hz)
                cases hb : Nat.beq f.1 6 with
                | true =>
                  intro z hz
                  rcases List.mem_cons.mp hz with rfl | hz
                  · exact ⟨x, j, xi.toNatClampNeg, _, _, by rw [List.getElem?_append_left (List.getElem?_eq_some_iff.mp hax).1]; exact hax, tk_num_grow l1 hnn, hw, hp, q3⟩
                  · exact hold z hz
                | false => exact hold
              · cases h
          · cases h
        · cases h
      · cases h
    · cases h
  · cases h
set_option maxHeartbeats 2000000 in
theorem tk_ld3_ok (hx : p.tables.exec = Jvm.exec) (hb : c.code = cc) (hF : rk_Fr s m args meth D cl Ad tbl xw fty cln own lk cs) {pc : Nat} {st : tk_S} {res : List (Nat × tk_S)} (hdg : decode cc pc = .ok (.aaload, 1)) (h : tk_f_ld3 TY (pc + 1) st = some res) (kk : ∀ q ∈ res, tk_St (rk_KW p l e R s m args below meth c Q) nL (tk_hr mods ws0 TY ro X ads tw s D cl Ad vals0 rads0) q.1 q.2) : tk_St (rk_KW p l e R s m args below meth c Q) nL (tk_hr mods ws0 TY ro X ads tw s D cl Ad vals0 rads0) pc st := by
  obtain ⟨hts, hxw, hown, hK, hA, hcl, hlk, hini, hac, hcs⟩ := hF
  obtain ⟨lo, sk, w, rf, fa⟩ := st
  intro vals rads H locs ls stk lc hH hR hl hL hS
  dsimp only at hH hR hL hS
  unfold tk_f_ld3 at h
  split at h
  · next ix a r e1 =>
    dsimp only at e1
    subst e1
    split at h
    · next hk =>
      split at h
      · next t ht =>
        split at h
        · next C n f hT =>
          split at h
          · next hix =>
            dsimp only at ht
            obtain ⟨vi, k0, rfl, gi, hS0⟩ := hS.cons
            obtain ⟨va, k1, rfl, hg, hS1⟩ := hS0.cons
            obtain ⟨xi, rfl, hxi⟩ := tk_g0 gi hk.2
            obtain ⟨x, hax, rfl⟩ := tk_g2 hg hk.1
            obtain ⟨hv0, hr0, h3, ws, h4, h5, h6, h7, h8, hun, h9⟩ := id hR
            obtain ⟨x', hax', hty⟩ := h3.get ht
            rw [hax] at hax'
            cases hax'
            obtain ⟨j, e1, hw, hj, hc1⟩ := tk_cell h4 h5 hty
            unfold tk_cl at hc1
            rw [hT] at hc1
            obtain ⟨cA, hA1, hA2, g, rfl, hf⟩ := hc1
            obtain ⟨hin, hlt, hti⟩ := tk_ix_ok hH.1 hxi hix
            have hnn : tk_num vals ix = some ((xi.toNatClampNeg : Nat) : Int) := by rw [hti]; exact hxi
            have hp : tk_pos (.inl (cA, n, .inr (.inr (.inr (.inr g))))) xi.toNatClampNeg = some (va_rf (g xi.toNatClampNeg)) := by
              show (if xi.toNatClampNeg < n then some (va_rf (g xi.toNatClampNeg)) else none) = _
              rw [if_pos hlt]
            split at h
            · next v0 hv0' =>
              cases h
              have hfl : tk_fl fa a.2.1 ix = some v0 := by
                cases hb : (Nat.beq f.1 2 && !(decide (f.2.2 = 0))) with
                | true => rw [hb] at hv0'; exact hv0'
                | false => rw [hb] at hv0'; cases hv0'
              obtain ⟨u, g3, g4⟩ := tk_fl_ok h9 h7 hfl hax hnn hw
              rw [hp] at g3
              obtain rfl := Option.some.inj g3
              refine va_aldq hx hb (rk_K1 hK hA1 hA2) h6 j 0 hw rfl hin hdg ?_
              exact kk _ (List.mem_singleton.mpr rfl) vals rads H locs ls _ lc hH hR hl hL ⟨tk_nm_ok hH.1 g4, hS1⟩
            · split at h
              · next f1 hf1 =>
               split at h
               · next q hq =>
                cases h
                obtain ⟨l1, r1, q1, q2, q3⟩ := tk_nw_ok hH h3 (tk_fi_ok hnn (hf _ hlt) hf1) hq
                obtain ⟨kv, hv0⟩ := hv0
                obtain ⟨kr, hr0⟩ := hr0
                refine va_aldq hx hb (rk_K1 hK hA1 hA2) h6 j 0 hw rfl hin hdg ?_
                refine kk _ (List.mem_singleton.mpr rfl) (vals ++ l1) (rads ++ r1) H locs ls _ lc q1 ⟨⟨kv ++ l1, by rw [hv0, List.append_assoc]⟩, ⟨kr ++ r1, by rw [hr0, List.append_assoc]⟩, q2, ws, h4, h5, h6, h7, h8, hun, ?_⟩ hl (hL.grow l1 r1) ⟨q3, tk_skG hS1 l1 r1⟩
                have hold : ∀ z ∈ fa, tk_fk (vals ++ l1) (rads ++ r1) ws z := fun z hz => tk_fk_grow l1 r1 (h9 z hz)
                cases hb : (Nat.beq f.1 2 && !(decide (f.2.2 = 0))) with
                | true =>
                  intro z hz
                  rcases List.mem_cons.mp hz with rfl | hz
                  · exact ⟨x, j, xi.toNatClampNeg, _, _, by rw [List.getElem?_append_left (List.getElem?_eq_some_iff.mp hax).1]; exact hax, tk_num_grow l1 hnn, hw, hp, q3⟩
                  · exact hold z hz
                | false => exact hold
               · cases h
              · cases h
          · cases h
        · cases h
      · cases h
    · cases h
  · cases h
set_option maxHeartbeats 2000000 in
theorem tk_ld4_ok (hx : p.tables.exec = Jvm.exec) (hb : c.code = cc) (hF : rk_Fr s m args meth D cl Ad tbl xw fty cln own lk cs) {pc : Nat} {st : tk_S} {res : List (Nat × tk_S)} (hdg : decode cc pc = .ok (.aaload, 1)) (h : tk_f_ld4 TY (pc + 1) st = some res) (kk : ∀ q ∈ res, tk_St (rk_KW p l e R s m args below meth c Q) nL (tk_hr mods ws0 TY ro X ads tw s D cl Ad vals0 rads0) q.1 q.2) : tk_St (rk_KW p l e R s m args below meth c Q) nL (tk_hr mods ws0 TY ro X ads tw s D cl Ad vals0 rads0) pc st := by
  obtain ⟨hts, hxw, hown, hK, hA, hcl, hlk, hini, hac, hcs⟩ := hF
  obtain ⟨lo, sk, w, rf, fa⟩ := st
  intro vals rads H locs ls stk lc hH hR hl hL hS
  dsimp only at hH hR hL hS
  unfold tk_f_ld4 at h
  split at h
  · next ix a r e1 =>
    dsimp only at e1
    subst e1
    split at h
    · next hk =>
      split at h
      · next t ht =>
        split at h
        · next C n f hT =>
          split at h
          · next hix =>
            dsimp only at ht
            obtain ⟨vi, k0, rfl, gi, hS0⟩ := hS.cons
            obtain ⟨va, k1, rfl, hg, hS1⟩ := hS0.cons
            obtain ⟨xi, rfl, hxi⟩ := tk_g0 gi hk.2
            obtain ⟨x, hax, rfl⟩ := tk_g2 hg hk.1
            obtain ⟨hv0, hr0, h3, ws, h4, h5, h6, h7, h8, hun, h9⟩ := id hR
            obtain ⟨x', hax', hty⟩ := h3.get ht
            rw [hax] at hax'
            cases hax'
            obtain ⟨j, e1, hw, hj, hc1⟩ := tk_cell h4 h5 hty
            unfold tk_cl at hc1
            rw [hT] at hc1
            obtain ⟨cA, hA1, hA2, g, rfl, hf⟩ := hc1
            obtain ⟨hin, hlt, hti⟩ := tk_ix_ok hH.1 hxi hix
            have hnn : tk_num vals ix = some ((xi.toNatClampNeg : Nat) : Int) := by rw [hti]; exact hxi
            have hp : tk_pos (.inl (cA, n, .inr (.inr (.inr (.inr g))))) xi.toNatClampNeg = some (va_rf (g xi.toNatClampNeg)) := by
              show (if xi.toNatClampNeg < n then some (va_rf (g xi.toNatClampNeg)) else none) = _
              rw [if_pos hlt]
            split at h
            · next v0 hv0' =>
              cases h
              have hfl : tk_fl fa a.2.1 ix = some v0 := by
                cases hb : (Nat.beq f.1 2 && !(decide (f.2.2 = 0))) with
                | true => rw [hb] at hv0'; exact hv0'
                | false => rw [hb] at hv0'; cases hv0'
              obtain ⟨u, g3, g4⟩ := tk_fl_ok h9 h7 hfl hax hnn hw
              rw [hp] at g3
              obtain rfl := Option.some.inj g3
              refine va_alda hx hb (rk_K1 hK hA1 hA2) h6 j 0 hw rfl hin hdg ?_
              exact kk _ (List.mem_singleton.mpr rfl) vals rads H locs ls _ lc hH hR hl hL ⟨tk_nm_ok hH.1 g4, hS1⟩
            · split at h
              · next f1 hf1 =>
               split at h
               · next q hq =>
                cases h
                obtain ⟨l1, r1, q1, q2, q3⟩ := tk_nw_ok hH h3 (tk_fi_ok hnn (hf _ hlt) hf1) hq
                obtain ⟨kv, hv0⟩ := hv0
                obtain ⟨kr, hr0⟩ := hr0
                refine va_alda hx hb (rk_K1 hK hA1 hA2) h6 j 0 hw rfl hin hdg ?_
                refine kk _ (List.mem_singleton.mpr rfl) (vals ++ l1) (rads ++ r1) H locs ls _ lc q1 ⟨⟨kv ++ l1, by rw [hv0, List.append_assoc]⟩, ⟨kr ++ r1, by rw [hr0, List.append_assoc]⟩, q2, ws, h4, h5, h6, h7, h8, hun, ?_⟩ hl (hL.grow l1 r1) ⟨q3, tk_skG hS1 l1 r1⟩
                have hold : ∀ z ∈ fa, tk_fk (vals ++ l1) (rads ++ r1) ws z := fun z hz => tk_fk_grow l1 r1 (h9 z hz)
                cases hb : (Nat.beq f.1 2 && !(decide (f.2.2 = 0))) with
                | true =>
                  intro z hz
                  rcases List.mem_cons.mp hz with rfl | hz
                  · exact ⟨x, j, xi.toNatClampNeg, _, _, by rw [List.getElem?_append_left (List.getElem?_eq_some_iff.mp hax).1]; exact hax, tk_num_grow l1 hnn, hw, hp, q3⟩
                  · exact hold z hz
                | false => exact hold
               · cases h
              · cases h
          · cases h
        · cases h
      · cases h
    · cases h
  · cases h
theorem tk_len_ok (hx : p.tables.exec = Jvm.exec) (hb : c.code = cc) (hF : rk_Fr s m args meth D cl Ad tbl xw fty cln own lk cs) {pc : Nat} {st : tk_S} {res : List (Nat × tk_S)} (hdg : decode cc pc = .ok (.arraylength, 1)) (h : tk_f_len TY (pc + 1) st = some res) (kk : ∀ q ∈ res, tk_St (rk_KW p l e R s m args below meth c Q) nL (tk_hr mods ws0 TY ro X ads tw s D cl Ad vals0 rads0) q.1 q.2) : tk_St (rk_KW p l e R s m args below meth c Q) nL (tk_hr mods ws0 TY ro X ads tw s D cl Ad vals0 rads0) pc st := by
  obtain ⟨hts, hxw, hown, hK, hA, hcl, hlk, hini, hac, hcs⟩ := hF
  obtain ⟨lo, sk, w, rf, fa⟩ := st
  intro vals rads H locs ls stk lc hH hR hl hL hS
  dsimp only at hH hR hL hS
  unfold tk_f_len at h
  split at h
  · next a r e1 =>
    dsimp only at e1
    subst e1
    split at h
    · next hk =>
      split at h
      · next t ht =>
        split at h
        · next q hT =>
          split at h
          · next hn =>
            cases h
            dsimp only at ht
            obtain ⟨va, k1, rfl, hg, hS1⟩ := hS.cons
            obtain ⟨x, hax, rfl⟩ := tk_g2 hg hk
            obtain ⟨hv0, hr0, h3, ws, h4, h5, h6, h7, h8, hun, h9⟩ := id hR
            obtain ⟨x', hax', hty⟩ := h3.get ht
            rw [hax] at hax'
            cases hax'
            obtain ⟨j, e1, hw, hj, hc1⟩ := tk_cell h4 h5 hty
            unfold tk_cl at hc1
            rw [hT] at hc1
            obtain ⟨cA, hA1, hA2, harr⟩ := hc1
            have he : ∃ z : vp_A, e1 = .inl (cA, z) ∧ z.1 = q.2.1 := by
              unfold tk_ar at harr
              split at harr
              all_goals first
                | exact harr.elim
                | (obtain ⟨f, rfl, -⟩ := harr
                   exact ⟨_, rfl, rfl⟩)
            obtain ⟨z, rfl, hz⟩ := he
            refine va_alen hx hb (rk_K1 hK hA1 hA2) h6 j 0 hw rfl (v := Int32.ofNat q.2.1) (by rw [hz]) hdg ?_
            exact kk _ (List.mem_singleton.mpr rfl) vals rads H locs ls _ lc hH hR hl hL ⟨tk_gi rfl (congrArg some (show ((q.2.1 : Nat) : Int) = (Int32.ofNat q.2.1).toInt from (nI_toInt (n := q.2.1) hn).symm)), hS1⟩
          · cases h
        · cases h
      · cases h
    · cases h
  · cases h
/-- a value that a field, an element may be -/
def tk_fits (env : List tk_I) (f : tk_F) (v : tk_V) : Bool := match f.1 with
  | 0 => v.1 == 0 && (match tk_iv env v with
    | some I => decide (f.2.1 ≤ I.1) && decide (I.2 ≤ f.2.2)
    | none => false)
  | 1 => v.1 == 1 && (match tk_iv env v with
    | some I => decide (f.2.1 ≤ I.1) && decide (I.2 ≤ f.2.2)
    | none => false)
  | 6 => v.1 == 1 && (match tk_iv env v with
    | some I => decide (f.2.1 ≤ I.1) && decide (I.2 ≤ f.2.2)
    | none => false)
  | _ => false
theorem tk_fits_ok {reg : Nat → Nat → tk_I} {env : List tk_I} {f : tk_F} {v : tk_V} {vals : List Int} {rads : List Nat} {u : Value} (t i : Nat) (hE : tk_E env vals) (hg : tk_g vals rads v u) (h : tk_fits env f v = true) : tk_fv ro reg ads tw t i f u ∧ ((v.1 = 0 ∧ ∃ x : Int32, u = .int x ∧ tk_num vals v = some x.toInt) ∨ (v.1 = 1 ∧ ∃ x : Int64, u = .long x ∧ tk_num vals v = some x.toInt)) := by
  unfold tk_fits at h
  unfold tk_fv
  split at h
  · next e =>
    rw [e]
    rw [Bool.and_eq_true, beq_iff_eq] at h
    obtain ⟨x, rfl, hx⟩ := tk_g0 hg h.1
    have h2 := h.2
    split at h2
    · next I hI =>
      have b := tk_iv_ok hE hx hI
      rw [Bool.and_eq_true, decide_eq_true_eq, decide_eq_true_eq] at h2
      exact ⟨⟨x, rfl, by omega, by omega⟩, Or.inl ⟨h.1, x, rfl, hx⟩⟩
    · cases h2
  · next e =>
    rw [e]
    rw [Bool.and_eq_true, beq_iff_eq] at h
    obtain ⟨x, rfl, hx⟩ := tk_g1 hg h.1
    have h2 := h.2
    split at h2
    · next I hI =>
      have b := tk_iv_ok hE hx hI
      rw [Bool.and_eq_true, decide_eq_true_eq, decide_eq_true_eq] at h2
      exact ⟨⟨x, rfl, by omega, by omega⟩, Or.inr ⟨h.1, x, rfl, hx⟩⟩
    · cases h2
  · next e =>
    rw [e]
    rw [Bool.and_eq_true, beq_iff_eq] at h
    obtain ⟨x, rfl, hx⟩ := tk_g1 hg h.1
    have h2 := h.2
    split at h2
    · next I hI =>
      have b := tk_iv_ok hE hx hI
      rw [Bool.and_eq_true, decide_eq_true_eq, decide_eq_true_eq] at h2
      exact ⟨⟨x, rfl, by omega, by omega⟩, Or.inr ⟨h.1, x, rfl, hx⟩⟩
    · cases h2
  · cases h
/-- two places that surely aren't one -/
def tk_dif (w : tk_W) (a b : tk_V) : Bool := tk_le w.1 w.2 a b 1 || tk_le w.1 w.2 b a 1
theorem tk_dif_ok {w : tk_W} {vals : List Int} {a b : tk_V} {x y : Int} (hH : tk_H w vals) (ha : tk_num vals a = some x) (hb : tk_num vals b = some y) (h : tk_dif w a b = true) : ¬ x = y := by
  unfold tk_dif at h
  rw [Bool.or_eq_true] at h
  rcases h with h | h
  · have := tk_le_ok hH.1 hH.2 ha hb h; omega
  · have := tk_le_ok hH.1 hH.2 hb ha h; omega
/-- a fact that stays where a place of type t is written -/
def tk_kp (w : tk_W) (rf : List Nat) (t : Nat) (ix : tk_V) (q : Nat × tk_V × tk_V) : Bool := match rf[q.1]? with
  | some t' => cond (Nat.beq t' t) (tk_dif w q.2.1 ix) true
  | none => false
theorem tk_fk_set {rf : List Nat} {w : tk_W} {vals : List Int} {rads : List Nat} {ws : va_W} {q : Nat × tk_V × tk_V} {j x t i0 : Nat} {ix : tk_V} {e e' : va_E} (hH : tk_H w vals) (h3 : rk_A2 (fun t y => tk_ty ads tw t y) rf rads) (h4 : ws.map Prod.fst = ads) (h7 : va_D Ad ws) (hw : ws[j]? = some (x, e)) (hj : tw[j]? = some t) (hix : tk_num vals ix = some (i0 : Int)) (hd : ∀ i, ¬ i = i0 → tk_pos e' i = tk_pos e i) (hk : tk_kp w rf t ix q = true) (h : tk_fk vals rads ws q) : tk_fk vals rads (ws.set j (x, e')) q := by
  obtain ⟨y, j', i, e2, v, g1, g2, g3, g4, g5⟩ := h
  by_cases ej : j = j'
  · subst ej
    rw [hw] at g3
    cases g3
    obtain ⟨t', ht', j2, hj2, hj3⟩ := h3.getR g1
    rw [← h4, List.getElem?_map] at hj2
    obtain ⟨z, hz, ez⟩ := Option.map_eq_some_iff.mp hj2
    have e2 := h7.1 j2 j z _ hz hw ez
    subst e2
    rw [hj] at hj3
    cases hj3
    unfold tk_kp at hk
    rw [ht'] at hk
    have hk : cond (Nat.beq t t) (tk_dif w q.2.1 ix) true = true := hk
    rw [show Nat.beq t t = true from Nat.beq_refl t] at hk
    have hne := tk_dif_ok hH g2 hix hk
    exact ⟨x, j2, i, e', v, g1, g2, List.getElem?_set_self (List.getElem?_eq_some_iff.mp hw).1, by rw [hd i (fun z => hne (by rw [z]))]; exact g4, g5⟩
  · exact ⟨y, j', i, e2, v, g1, g2, by rw [List.getElem?_set_ne ej]; exact g3, g4, g5⟩
/-- an element of an array may be written -/
def tk_mwx (TY : tk_TT) (mods : List (Nat × Nat)) (t : Nat) (env : List tk_I) (ix : tk_V) : Bool := match TY.2.2.1 t with
  | none => tk_mw TY mods t 0
  | some g => tk_rgP (fun i => tk_mw TY mods t (g i)) env ix
theorem tk_mwx_ok {env : List tk_I} {vals : List Int} {t i : Nat} {ix : tk_V} (hE : tk_E env vals) (hn : tk_num vals ix = some (i : Int)) (h : tk_mwx TY mods t env ix = true) : tk_mw TY mods t (tk_rg TY t i) = true := by
  unfold tk_mwx at h
  unfold tk_rg
  split at h
  · next e => rw [e]; exact h
  · next g e => rw [e]; exact tk_rgP_ok (P := fun i => tk_mw TY mods t (g i)) hE hn h
def tk_mwm (TY : tk_TT) (mods : List (Nat × Nat)) (t : Nat) (env : List tk_I) (ix : tk_V) : Bool := match TY.2.2.1 t with
  | none => tk_in mods t 0
  | some g => tk_rgP (fun i => tk_in mods t (g i)) env ix
theorem tk_mwm_ok {env : List tk_I} {vals : List Int} {t i : Nat} {ix : tk_V} (hE : tk_E env vals) (hn : tk_num vals ix = some (i : Int)) (h : tk_mwm TY mods t env ix = true) : tk_in mods t (tk_rg TY t i) = true := by
  unfold tk_mwm at h
  unfold tk_rg
  split at h
  · next e => rw [e]; exact h
  · next g e => rw [e]; exact tk_rgP_ok (P := fun i => tk_in mods t (g i)) hE hn h
/-- a place may be written: no step's business but the guard's, or what X doesn't speak of -/
def tk_wok (TY : tk_TT) (mods : List (Nat × Nat)) (st : tk_S) (t r : Nat) (ix v : tk_V) : Bool := tk_mwx TY mods t st.2.2.1.1 ix || (tk_mwm TY mods t st.2.2.1.1 ix && TY.2.2.2.2 st t r ix v)
theorem tk_ux_w (hXs : tk_xs TY X ads tw) {ws : va_W} {st : tk_S} {t r i x j : Nat} {ix v : tk_V} {e e' : va_E} {u : Value} {vals : List Int} {rads : List Nat} (hu : tk_ux TY X mods tw ws0 ws) (hH : tk_H st.2.2.1 vals) (h3 : rk_A2 (fun t y => tk_ty ads tw t y) st.2.2.2.1 rads) (h9 : ∀ z ∈ st.2.2.2.2, tk_fk vals rads ws z) (h7 : va_D Ad ws) (h4 : ws.map Prod.fst = ads) (hax : rads[r]? = some x) (hn : tk_num vals ix = some (i : Int)) (hw : ws[j]? = some (x, e)) (hj : tw[j]? = some t) (hg : tk_g vals rads v u) (hps : tk_pos e' i = some u) (hpd : ∀ i', ¬ i' = i → tk_pos e' i' = tk_pos e i') (h : tk_wok TY mods st t r ix v = true) : tk_ux TY X mods tw ws0 (ws.set j (x, e')) := by
  unfold tk_wok at h
  rw [Bool.or_eq_true, Bool.and_eq_true] at h
  rcases h with h | ⟨h1, h2⟩
  · exact tk_ux_set hXs hu hw hj (tk_mwx_ok hH.1 hn h) (fun i' hi => hpd i' (fun z => hi (by rw [z]))) ⟨i, rfl⟩
  · have hm := tk_in_ok.mp (tk_mwm_ok hH.1 hn h1)
    refine ⟨tk_un_tr hu.1 (tk_un_set (mods := [(t, tk_rg TY t i)]) hw hj (fun i' hi => hpd i' (fun z => hi (by rw [z]; exact List.mem_singleton.mpr rfl))) ⟨i, List.mem_singleton.mpr rfl⟩) (fun z hz => by rw [List.mem_singleton.mp hz]; exact hm), hXs.2 st t r i x j ix v e e' u vals rads ws Ad h2 hH h3 h9 h7 h4 hax hn hw hj hg hps hpd hu.2⟩
def tk_fitx (TY : tk_TT) (env : List tk_I) (f : tk_F) (ix v : tk_V) : Bool := cond (Nat.beq f.1 3) (v.1 == 0 && (match tk_iv env v with
  | some I => tk_rgP (fun i => decide ((TY.2.1 f.2.1.toNat i).1 ≤ I.1) && decide (I.2 ≤ (TY.2.1 f.2.1.toNat i).2)) env ix
  | none => false)) (tk_fits env f v)
theorem tk_fitx_ok {env : List tk_I} {f : tk_F} {ix v : tk_V} {vals : List Int} {rads : List Nat} {u : Value} (t : Nat) {i : Nat} (hE : tk_E env vals) (hn : tk_num vals ix = some (i : Int)) (hg : tk_g vals rads v u) (h : tk_fitx TY env f ix v = true) : tk_fv ro TY.2.1 ads tw t i f u := by
  unfold tk_fitx at h
  cases hb : Nat.beq f.1 3 with
  | false => rw [hb] at h; exact (tk_fits_ok t i hE hg h).1
  | true =>
    rw [hb] at h
    have e := Nat.eq_of_beq_eq_true hb
    have h : (v.1 == 0 && (match tk_iv env v with
      | some I => tk_rgP (fun i => decide ((TY.2.1 f.2.1.toNat i).1 ≤ I.1) && decide (I.2 ≤ (TY.2.1 f.2.1.toNat i).2)) env ix
      | none => false)) = true := h
    rw [Bool.and_eq_true, beq_iff_eq] at h
    obtain ⟨x, rfl, hx⟩ := tk_g0 hg h.1
    have h2 := h.2
    split at h2
    · next I hI =>
      have b := tk_iv_ok hE hx hI
      have hp := tk_rgP_ok (P := fun i => decide ((TY.2.1 f.2.1.toNat i).1 ≤ I.1) && decide (I.2 ≤ (TY.2.1 f.2.1.toNat i).2)) hE hn h2
      rw [Bool.and_eq_true, decide_eq_true_eq, decide_eq_true_eq] at hp
      unfold tk_fv
      rw [e]
      exact ⟨x, rfl, by omega, by omega⟩
    · cases h2
/-- a value that was read of a like place of a like cell: its bounds go with its place -/
def tk_fcp (TY : tk_TT) (env : List tk_I) (rf : List Nat) (fa : tk_FA) (t : Nat) (f : tk_F) (ix v : tk_V) : Bool := Nat.beq f.1 3 && (v.1 == 0 && fa.any (fun z => (match rf[z.1]? with
  | some t2 => Nat.beq t2 t
  | none => false) && (z.2.2.1 == 0 && (tk_kq z.2.2 v && (Nat.beq z.2.1.2.1 ix.2.1 && (Nat.beq z.2.1.2.2.1 ix.2.2.1 && tk_rgP (fun i => decide ((TY.2.1 f.2.1.toNat i).1 ≤ (TY.2.1 f.2.1.toNat ((i : Int) + (z.2.1.2.2.2 - ix.2.2.2)).toNat).1) && decide ((TY.2.1 f.2.1.toNat ((i : Int) + (z.2.1.2.2.2 - ix.2.2.2)).toNat).2 ≤ (TY.2.1 f.2.1.toNat i).2)) env ix))))))
theorem tk_fcp_ok {w : tk_W} {rf : List Nat} {fa : tk_FA} {n : Nat} {f : tk_F} {ix v : tk_V} {vals : List Int} {rads : List Nat} {y : Int32} {ws : va_W} {t i : Nat} (hT : TY.1[t]? = some (.inr (.int, n, f))) (hE : tk_E w.1 vals) (hn : tk_num vals ix = some (i : Int)) (hy : tk_num vals v = some y.toInt) (h3 : rk_A2 (fun t y => tk_ty ads tw t y) rf rads) (h4 : ws.map Prod.fst = ads) (h5 : rk_A2 (fun t (q : Nat × va_E) => tk_cl TY ro ads tw s t q.2) tw ws) (h7 : va_D Ad ws) (h9 : ∀ z ∈ fa, tk_fk vals rads ws z) (h : tk_fcp TY w.1 rf fa t f ix v = true) : tk_fv ro TY.2.1 ads tw t i f (.int y) := by
  unfold tk_fcp at h
  rw [Bool.and_eq_true, Bool.and_eq_true, List.any_eq_true] at h
  obtain ⟨hb, hv, z, hz, h⟩ := h
  rw [Bool.and_eq_true, Bool.and_eq_true, Bool.and_eq_true, Bool.and_eq_true, Bool.and_eq_true, beq_iff_eq] at h
  obtain ⟨a1, a2, a3, a4, a5, a6⟩ := h
  have e := Nat.eq_of_beq_eq_true hb
  obtain ⟨x, j, ik, e0, u, g1, g2, g3, g4, g5⟩ := h9 z hz
  obtain ⟨t2, ht2, hty⟩ := h3.getR g1
  rw [ht2] at a1
  have a1 := Nat.eq_of_beq_eq_true a1
  subst a1
  obtain ⟨j1, e1, hw, hj, hc1⟩ := tk_cell h4 h5 hty
  have := h7.1 j j1 _ _ g3 hw rfl
  subst this
  rw [hw] at g3
  cases g3
  unfold tk_cl at hc1
  rw [hT] at hc1
  obtain ⟨cA, -, -, g, rfl, hf⟩ := hc1
  have hlt : ik < n ∧ u = .int (g ik) := by
    have q : (if ik < n then some (Value.int (g ik)) else none) = some u := g4
    split at q
    · next c => cases q; exact ⟨c, rfl⟩
    · cases q
  obtain ⟨hlt, rfl⟩ := hlt
  obtain ⟨x2, hx2, hx3⟩ := tk_g0 g5 a2
  cases hx2
  rw [tk_kq_ok a3 vals, hy] at hx3
  have hxy : y = g ik := Int32.toInt_inj.mp (Option.some.inj hx3)
  have hq := hf ik hlt
  unfold tk_fv at hq ⊢
  rw [e] at hq ⊢
  obtain ⟨x4, hx4, b1, b2⟩ := hq
  cases hx4
  have hik : (ik : Int) = (i : Int) + (z.2.1.2.2.2 - ix.2.2.2) := by
    have c1 := Nat.eq_of_beq_eq_true a4
    have c2 := Nat.eq_of_beq_eq_true a5
    unfold tk_num at g2 hn
    rw [c1, c2] at g2
    split at hn
    · next c3 =>
      rw [c3] at g2
      have g2 : z.2.1.2.2.2 = (ik : Int) := Option.some.inj g2
      have hn : ix.2.2.2 = (i : Int) := Option.some.inj hn
      omega
    · next k c3 =>
      rw [c3] at g2
      dsimp only at g2
      cases hk : vals[k]? with
      | none => rw [hk] at hn; cases hn
      | some m =>
        rw [hk] at hn g2
        have g2 : (ix.2.2.1 : Int) * m + z.2.1.2.2.2 = (ik : Int) := Option.some.inj g2
        have hn : (ix.2.2.1 : Int) * m + ix.2.2.2 = (i : Int) := Option.some.inj hn
        omega
  have hp := tk_rgP_ok hE hn a6
  rw [← hik, Bool.and_eq_true, decide_eq_true_eq, decide_eq_true_eq] at hp
  rw [Int.toNat_natCast] at hp
  exact ⟨y, rfl, by rw [hxy]; exact Int.le_trans hp.1 b1, by rw [hxy]; exact Int.le_trans b2 hp.2⟩
def tk_f_sa0 (mods : List (Nat × Nat)) (TY : tk_TT) (pc : Nat) : tk_Fn := fun st => match st.2.1 with
  | v :: ix :: a :: r => if a.1 = 2 ∧ ix.1 = 0 ∧ v.1 = 0 then (match st.2.2.2.1[a.2.1]? with
    | some t => (match TY.1[t]? with
      | some (.inr (.int, n, f)) => if tk_ix st.2.2.1.1 ix n = true ∧ (tk_fitx TY st.2.2.1.1 f ix v || tk_fcp TY st.2.2.1.1 st.2.2.2.1 st.2.2.2.2 t f ix v) = true ∧ tk_wok TY mods st t a.2.1 ix v = true then some [(pc, (st.1, r, st.2.2.1, st.2.2.2.1, cond (Nat.beq f.1 3) ((a.2.1, ix, v) :: st.2.2.2.2.filter (tk_kp st.2.2.1 st.2.2.2.1 t ix)) (st.2.2.2.2.filter (tk_kp st.2.2.1 st.2.2.2.1 t ix))))] else none
      | _ => none)
    | none => none) else none
  | _ => none
set_option maxHeartbeats 2000000 in
theorem tk_sa0_ok (hx : p.tables.exec = Jvm.exec) (hb : c.code = cc) (hF : rk_Fr s m args meth D cl Ad tbl xw fty cln own lk cs) {pc : Nat} {st : tk_S} {res : List (Nat × tk_S)} (hdg : decode cc pc = .ok (.iastore, 1)) (hXs : tk_xs TY X ads tw) (h : tk_f_sa0 mods TY (pc + 1) st = some res) (kk : ∀ q ∈ res, tk_St (rk_KW p l e R s m args below meth c Q) nL (tk_hr mods ws0 TY ro X ads tw s D cl Ad vals0 rads0) q.1 q.2) : tk_St (rk_KW p l e R s m args below meth c Q) nL (tk_hr mods ws0 TY ro X ads tw s D cl Ad vals0 rads0) pc st := by
  obtain ⟨hts, hxw, hown, hK, hA, hcl, hlk, hini, hac, hcs⟩ := hF
  obtain ⟨lo, sk, w, rf, fa⟩ := st
  intro vals rads H locs ls stk lc hH hR hl hL hS
  dsimp only at hH hR hL hS
  unfold tk_f_sa0 at h
  split at h
  · next v0 ix a r e1 =>
    dsimp only at e1
    subst e1
    split at h
    · next hk =>
      split at h
      · next t ht =>
        split at h
        · next n f hT =>
          split at h
          · next hix =>
              cases h
              dsimp only at ht
              obtain ⟨vv, kz, rfl, gv, hSz⟩ := hS.cons
              obtain ⟨vi, k0, rfl, gi, hS0⟩ := hSz.cons
              obtain ⟨va, k1, rfl, hg, hS1⟩ := hS0.cons
              obtain ⟨xi, rfl, hxi⟩ := tk_g0 gi hk.2.1
              obtain ⟨x, hax, rfl⟩ := tk_g2 hg hk.1
              obtain ⟨y, rfl, hyn⟩ := tk_g0 gv hk.2.2
              obtain ⟨hv0, hr0, h3, ws, h4, h5, h6, h7, h8, hun, h9⟩ := id hR
              obtain ⟨x', hax', hty⟩ := h3.get ht
              rw [hax] at hax'
              cases hax'
              obtain ⟨j, e1, hw, hj, hc1⟩ := tk_cell h4 h5 hty
              unfold tk_cl at hc1
              rw [hT] at hc1
              obtain ⟨cA, hA1, hA2, g, rfl, hf⟩ := hc1
              obtain ⟨hin, hlt, hti⟩ := tk_ix_ok hH.1 hxi hix.1
              have hnn : tk_num vals ix = some ((xi.toNatClampNeg : Nat) : Int) := by rw [hti]; exact hxi
              have hfv : tk_fv ro TY.2.1 ads tw t xi.toNatClampNeg f (.int y) := (Bool.or_eq_true _ _ ▸ hix.2.1 : _ ∨ _).elim (fun q => tk_fitx_ok (ro := ro) (ads := ads) (tw := tw) t hH.1 hnn gv q) (fun q => tk_fcp_ok hT hH.1 hnn hyn h3 h4 h5 h7 h9 q)
              have hmw := hix.2.2
              refine va_iast hx hb (rk_K1 hK hA1 hA2) h6 h7 h8 j 0 hw rfl hin hdg (fun H1 locs1 hP1 hD1 hS1' => ?_)
              have hpd : ∀ i, ¬ i = xi.toNatClampNeg → tk_pos (.inl (cA, n, .inl (upd g xi.toNatClampNeg y))) i = tk_pos (.inl (cA, n, .inl g)) i := fun i hi => by
                show (if i < n then some (Value.int ((upd g xi.toNatClampNeg y) i)) else none) = (if i < n then some (Value.int (g i)) else none)
                rw [pk_un hi]
              have hps : tk_pos (.inl (cA, n, .inl (upd g xi.toNatClampNeg y))) xi.toNatClampNeg = some (Value.int y) := by
                show (if xi.toNatClampNeg < n then some (Value.int ((upd g xi.toNatClampNeg y) xi.toNatClampNeg)) else none) = _
                rw [if_pos hlt, pk_us]
              have hold : ∀ z ∈ fa.filter (tk_kp w rf t ix), tk_fk vals rads (ws.set j (x, .inl (cA, n, .inl (upd g xi.toNatClampNeg y)))) z := fun z hz => by
                obtain ⟨z1, z2⟩ := List.mem_filter.mp hz
                exact tk_fk_set hH h3 h4 h7 hw hj hnn hpd z2 (h9 z z1)
              refine kk _ (List.mem_singleton.mpr rfl) vals rads H1 locs1 ls _ lc hH ⟨hv0, hr0, h3, _, by rw [rk_map_set hw]; exact h4, tk_A2_setR ?_ h5 hj, hP1, hD1, hS1', tk_ux_w hXs hun hH h3 h9 h7 h4 hax hnn hw hj gv hps hpd hmw, (by
                cases hb3 : Nat.beq f.1 3 with
                | true =>
                  intro z hz
                  rcases List.mem_cons.mp hz with rfl | hz
                  · exact ⟨x, j, xi.toNatClampNeg, _, _, hax, hnn, List.getElem?_set_self (List.getElem?_eq_some_iff.mp hw).1, hps, gv⟩
                  · exact hold z hz
                | false => exact hold)⟩ hl hL hS1
              show tk_cl TY ro ads tw s t _
              unfold tk_cl
              rw [hT]
              refine ⟨cA, hA1, hA2, _, rfl, fun i hi => ?_⟩
              by_cases ei : xi.toNatClampNeg = i
              · subst ei
                rw [pk_us]
                exact hfv
              · rw [pk_un (Ne.symm ei)]
                exact hf i hi
          · cases h
        · cases h
      · cases h
    · cases h
  · cases h
def tk_f_sa1 (mods : List (Nat × Nat)) (TY : tk_TT) (pc : Nat) : tk_Fn := fun st => match st.2.1 with
  | v :: ix :: a :: r => if a.1 = 2 ∧ ix.1 = 0 ∧ v.1 = 0 then (match st.2.2.2.1[a.2.1]? with
    | some t => (match TY.1[t]? with
      | some (.inr (.byte, n, f)) => if tk_ix st.2.2.1.1 ix n = true ∧ tk_fits st.2.2.1.1 f v = true ∧ tk_wok TY mods st t a.2.1 ix v = true ∧ -128 ≤ f.2.1 ∧ f.2.2 ≤ 127 then some [(pc, (st.1, r, st.2.2.1, st.2.2.2.1, (st.2.2.2.2.filter (tk_kp st.2.2.1 st.2.2.2.1 t ix))))] else none
      | _ => none)
    | none => none) else none
  | _ => none
set_option maxHeartbeats 2000000 in
theorem tk_sa1_ok (hx : p.tables.exec = Jvm.exec) (hb : c.code = cc) (hF : rk_Fr s m args meth D cl Ad tbl xw fty cln own lk cs) {pc : Nat} {st : tk_S} {res : List (Nat × tk_S)} (hdg : decode cc pc = .ok (.bastore, 1)) (hXs : tk_xs TY X ads tw) (h : tk_f_sa1 mods TY (pc + 1) st = some res) (kk : ∀ q ∈ res, tk_St (rk_KW p l e R s m args below meth c Q) nL (tk_hr mods ws0 TY ro X ads tw s D cl Ad vals0 rads0) q.1 q.2) : tk_St (rk_KW p l e R s m args below meth c Q) nL (tk_hr mods ws0 TY ro X ads tw s D cl Ad vals0 rads0) pc st := by
  obtain ⟨hts, hxw, hown, hK, hA, hcl, hlk, hini, hac, hcs⟩ := hF
  obtain ⟨lo, sk, w, rf, fa⟩ := st
  intro vals rads H locs ls stk lc hH hR hl hL hS
  dsimp only at hH hR hL hS
  unfold tk_f_sa1 at h
  split at h
  · next v0 ix a r e1 =>
    dsimp only at e1
    subst e1
    split at h
    · next hk =>
      split at h
      · next t ht =>
        split at h
        · next n f hT =>
          split at h
          · next hix =>
              cases h
              dsimp only at ht
              obtain ⟨vv, kz, rfl, gv, hSz⟩ := hS.cons
              obtain ⟨vi, k0, rfl, gi, hS0⟩ := hSz.cons
              obtain ⟨va, k1, rfl, hg, hS1⟩ := hS0.cons
              obtain ⟨xi, rfl, hxi⟩ := tk_g0 gi hk.2.1
              obtain ⟨x, hax, rfl⟩ := tk_g2 hg hk.1
              obtain ⟨y, rfl, hyn⟩ := tk_g0 gv hk.2.2
              obtain ⟨hv0, hr0, h3, ws, h4, h5, h6, h7, h8, hun, h9⟩ := id hR
              obtain ⟨x', hax', hty⟩ := h3.get ht
              rw [hax] at hax'
              cases hax'
              obtain ⟨j, e1, hw, hj, hc1⟩ := tk_cell h4 h5 hty
              unfold tk_cl at hc1
              rw [hT] at hc1
              obtain ⟨cA, hA1, hA2, g, rfl, hf⟩ := hc1
              obtain ⟨hin, hlt, hti⟩ := tk_ix_ok hH.1 hxi hix.1
              have hnn : tk_num vals ix = some ((xi.toNatClampNeg : Nat) : Int) := by rw [hti]; exact hxi
              have hfv := (tk_fits_ok (ro := ro) (reg := TY.2.1) (ads := ads) (tw := tw) t xi.toNatClampNeg hH.1 gv hix.2.1).1
              have hmw := hix.2.2.1
              have hy : vp_nar .byte y = y := by
                rw [vp_nar_byte]
                apply Int32.toInt_inj.mp
                rw [Int8.toInt_toInt32, Int32.toInt_toInt8]
                have hb1 : f.2.1 ≤ y.toInt ∧ y.toInt ≤ f.2.2 := by
                  have hbf := hix.2.1
                  unfold tk_fits at hbf
                  split at hbf
                  · rw [Bool.and_eq_true] at hbf
                    have hbf := hbf.2
                    split at hbf
                    · next I hI =>
                      have b := tk_iv_ok hH.1 hyn hI
                      rw [Bool.and_eq_true, decide_eq_true_eq, decide_eq_true_eq] at hbf
                      omega
                    · cases hbf
                  · rw [Bool.and_eq_true, beq_iff_eq] at hbf
                    exact absurd (hk.2.2.symm.trans hbf.1) (by decide)
                  · rw [Bool.and_eq_true, beq_iff_eq] at hbf
                    exact absurd (hk.2.2.symm.trans hbf.1) (by decide)
                  · cases hbf
                have hb9 := hix.2.2.2
                exact Int.bmod_eq_of_le (by omega) (by omega)
              refine va_bast hx hb (rk_K1 hK hA1 hA2) h6 h7 h8 j 0 hw rfl hin hdg (fun H1 locs1 hP1 hD1 hS1' => ?_)
              rw [hy] at hP1 hD1
              have hpd : ∀ i, ¬ i = xi.toNatClampNeg → tk_pos (.inl (cA, n, .inl (upd g xi.toNatClampNeg y))) i = tk_pos (.inl (cA, n, .inl g)) i := fun i hi => by
                show (if i < n then some (Value.int ((upd g xi.toNatClampNeg y) i)) else none) = (if i < n then some (Value.int (g i)) else none)
                rw [pk_un hi]
              have hps : tk_pos (.inl (cA, n, .inl (upd g xi.toNatClampNeg y))) xi.toNatClampNeg = some (Value.int y) := by
                show (if xi.toNatClampNeg < n then some (Value.int ((upd g xi.toNatClampNeg y) xi.toNatClampNeg)) else none) = _
                rw [if_pos hlt, pk_us]
              have hold : ∀ z ∈ fa.filter (tk_kp w rf t ix), tk_fk vals rads (ws.set j (x, .inl (cA, n, .inl (upd g xi.toNatClampNeg y)))) z := fun z hz => by
                obtain ⟨z1, z2⟩ := List.mem_filter.mp hz
                exact tk_fk_set hH h3 h4 h7 hw hj hnn hpd z2 (h9 z z1)
              refine kk _ (List.mem_singleton.mpr rfl) vals rads H1 locs1 ls _ lc hH ⟨hv0, hr0, h3, _, by rw [rk_map_set hw]; exact h4, tk_A2_setR ?_ h5 hj, hP1, hD1, hS1', tk_ux_w hXs hun hH h3 h9 h7 h4 hax hnn hw hj gv hps hpd hmw, hold⟩ hl hL hS1
              show tk_cl TY ro ads tw s t _
              unfold tk_cl
              rw [hT]
              refine ⟨cA, hA1, hA2, _, rfl, fun i hi => ?_⟩
              by_cases ei : xi.toNatClampNeg = i
              · subst ei
                rw [pk_us]
                exact hfv
              · rw [pk_un (Ne.symm ei)]
                exact hf i hi
          · cases h
        · cases h
      · cases h
    · cases h
  · cases h
def tk_f_sa2 (mods : List (Nat × Nat)) (TY : tk_TT) (pc : Nat) : tk_Fn := fun st => match st.2.1 with
  | v :: ix :: a :: r => if a.1 = 2 ∧ ix.1 = 0 ∧ v.1 = 1 then (match st.2.2.2.1[a.2.1]? with
    | some t => (match TY.1[t]? with
      | some (.inr (.long, n, f)) => if tk_ix st.2.2.1.1 ix n = true ∧ tk_fits st.2.2.1.1 f v = true ∧ tk_wok TY mods st t a.2.1 ix v = true then some [(pc, (st.1, r, st.2.2.1, st.2.2.2.1, cond (Nat.beq f.1 6) ((a.2.1, ix, v) :: st.2.2.2.2.filter (tk_kp st.2.2.1 st.2.2.2.1 t ix)) (st.2.2.2.2.filter (tk_kp st.2.2.1 st.2.2.2.1 t ix))))] else none
      | _ => none)
    | none => none) else none
  | _ => none
set_option maxHeartbeats 2000000 in
theorem tk_sa2_ok (hx : p.tables.exec = Jvm.exec) (hb : c.code = cc) (hF : rk_Fr s m args meth D cl Ad tbl xw fty cln own lk cs) {pc : Nat} {st : tk_S} {res : List (Nat × tk_S)} (hdg : decode cc pc = .ok (.lastore, 1)) (hXs : tk_xs TY X ads tw) (h : tk_f_sa2 mods TY (pc + 1) st = some res) (kk : ∀ q ∈ res, tk_St (rk_KW p l e R s m args below meth c Q) nL (tk_hr mods ws0 TY ro X ads tw s D cl Ad vals0 rads0) q.1 q.2) : tk_St (rk_KW p l e R s m args below meth c Q) nL (tk_hr mods ws0 TY ro X ads tw s D cl Ad vals0 rads0) pc st := by
  obtain ⟨hts, hxw, hown, hK, hA, hcl, hlk, hini, hac, hcs⟩ := hF
  obtain ⟨lo, sk, w, rf, fa⟩ := st
  intro vals rads H locs ls stk lc hH hR hl hL hS
  dsimp only at hH hR hL hS
  unfold tk_f_sa2 at h
  split at h
  · next v0 ix a r e1 =>
    dsimp only at e1
    subst e1
    split at h
    · next hk =>
      split at h
      · next t ht =>
        split at h
        · next n f hT =>
          split at h
          · next hix =>
              cases h
              dsimp only at ht
              obtain ⟨vv, kz, rfl, gv, hSz⟩ := hS.cons
              obtain ⟨vi, k0, rfl, gi, hS0⟩ := hSz.cons
              obtain ⟨va, k1, rfl, hg, hS1⟩ := hS0.cons
              obtain ⟨xi, rfl, hxi⟩ := tk_g0 gi hk.2.1
              obtain ⟨x, hax, rfl⟩ := tk_g2 hg hk.1
              obtain ⟨y, rfl, hyn⟩ := tk_g1 gv hk.2.2
              obtain ⟨hv0, hr0, h3, ws, h4, h5, h6, h7, h8, hun, h9⟩ := id hR
              obtain ⟨x', hax', hty⟩ := h3.get ht
              rw [hax] at hax'
              cases hax'
              obtain ⟨j, e1, hw, hj, hc1⟩ := tk_cell h4 h5 hty
              unfold tk_cl at hc1
              rw [hT] at hc1
              obtain ⟨cA, hA1, hA2, g, rfl, hf⟩ := hc1
              obtain ⟨hin, hlt, hti⟩ := tk_ix_ok hH.1 hxi hix.1
              have hnn : tk_num vals ix = some ((xi.toNatClampNeg : Nat) : Int) := by rw [hti]; exact hxi
              have hfv := (tk_fits_ok (ro := ro) (reg := TY.2.1) (ads := ads) (tw := tw) t xi.toNatClampNeg hH.1 gv hix.2.1).1
              have hmw := hix.2.2
              refine va_last hx hb (rk_K1 hK hA1 hA2) h6 h7 h8 j 0 hw rfl hin hdg (fun H1 locs1 hP1 hD1 hS1' => ?_)
              have hpd : ∀ i, ¬ i = xi.toNatClampNeg → tk_pos (.inl (cA, n, (Sum.inr ∘ Sum.inl) (vp_updL g xi.toNatClampNeg y))) i = tk_pos (.inl (cA, n, (Sum.inr ∘ Sum.inl) g)) i := fun i hi => by
                show (if i < n then some (Value.long ((vp_updL g xi.toNatClampNeg y) i)) else none) = (if i < n then some (Value.long (g i)) else none)
                rw [pk_uLn hi]
              have hps : tk_pos (.inl (cA, n, (Sum.inr ∘ Sum.inl) (vp_updL g xi.toNatClampNeg y))) xi.toNatClampNeg = some (Value.long y) := by
                show (if xi.toNatClampNeg < n then some (Value.long ((vp_updL g xi.toNatClampNeg y) xi.toNatClampNeg)) else none) = _
                rw [if_pos hlt, pk_uLs]
              have hold : ∀ z ∈ fa.filter (tk_kp w rf t ix), tk_fk vals rads (ws.set j (x, .inl (cA, n, (Sum.inr ∘ Sum.inl) (vp_updL g xi.toNatClampNeg y)))) z := fun z hz => by
                obtain ⟨z1, z2⟩ := List.mem_filter.mp hz
                exact tk_fk_set hH h3 h4 h7 hw hj hnn hpd z2 (h9 z z1)
              refine kk _ (List.mem_singleton.mpr rfl) vals rads H1 locs1 ls _ lc hH ⟨hv0, hr0, h3, _, by rw [rk_map_set hw]; exact h4, tk_A2_setR ?_ h5 hj, hP1, hD1, hS1', tk_ux_w hXs hun hH h3 h9 h7 h4 hax hnn hw hj gv hps hpd hmw, (by
                cases hb3 : Nat.beq f.1 6 with
                | true =>
                  intro z hz
                  rcases List.mem_cons.mp hz with rfl | hz
                  · exact ⟨x, j, xi.toNatClampNeg, _, _, hax, hnn, List.getElem?_set_self (List.getElem?_eq_some_iff.mp hw).1, hps, gv⟩
                  · exact hold z hz
                | false => exact hold)⟩ hl hL hS1
              show tk_cl TY ro ads tw s t _
              unfold tk_cl
              rw [hT]
              refine ⟨cA, hA1, hA2, _, rfl, fun i hi => ?_⟩
              by_cases ei : xi.toNatClampNeg = i
              · subst ei
                rw [pk_uLs]
                exact hfv
              · rw [pk_uLn (Ne.symm ei)]
                exact hf i hi
          · cases h
        · cases h
      · cases h
    · cases h
  · cases h
end TKJ
