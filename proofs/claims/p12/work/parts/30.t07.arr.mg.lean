section MH27_0
/-! ===== tk: arrays: loads, lengths ===== -/
theorem tk_A2_setR {α β : Type} {R : α → β → Prop} {a : α} {b : β} (hr : R a b) : ∀ {l : List α} {l' : List β}, rk_A2 R l l' → ∀ {j : Nat}, l[j]? = some a → rk_A2 R l (l'.set j b) := by
  intro l
  induction l with
  | nil => intro l' h j hj; simp at hj
  | cons x l ih =>
    intro l' h j hj
    cases l' with
    | nil => exact h.elim
    | cons y l' =>
      cases j with
      | zero => simp at hj; subst hj; exact ⟨hr, h.2⟩
      | succ j => simp at hj; exact ⟨h.1, ih h.2 hj⟩
/-- an index within -/
def tk_ix (env : List tk_I) (ix : tk_V) (n : Nat) : Bool := match tk_iv env ix with
  | some I => decide (0 ≤ I.1) && decide (I.2 < (n : Int))
  | none => false
theorem tk_ix_ok {env : List tk_I} {vals : List Int} {ix : tk_V} {x : Int32} {n : Nat} (hE : tk_E env vals) (hn : tk_num vals ix = some x.toInt) (h : tk_ix env ix n = true) : vp_in x n ∧ x.toNatClampNeg < n ∧ (x.toNatClampNeg : Int) = x.toInt := by
  unfold tk_ix at h
  split at h
  · next I hI =>
    have b := tk_iv_ok hE hn hI
    rw [Bool.and_eq_true, decide_eq_true_eq, decide_eq_true_eq] at h
    have e : x.toNatClampNeg = x.toInt.toNat := rfl
    exact ⟨vp_in_iff.mpr ⟨by omega, by omega⟩, by omega, by omega⟩
  · cases h
/-- what g says of all places that an index may be -/
def tk_rgu (g : Nat → tk_I) (fac : Nat) (off : Int) : Nat → Int → tk_I → tk_I
  | 0, _, acc => acc
  | n + 1, z, acc => tk_rgu g fac off n (z + 1) (min acc.1 (g ((fac : Int) * z + off).toNat).1, max acc.2 (g ((fac : Int) * z + off).toNat).2)
theorem tk_rgu_ok (g : Nat → tk_I) (fac : Nat) (off : Int) : ∀ (n : Nat) (z : Int) (acc : tk_I), ((tk_rgu g fac off n z acc).1 ≤ acc.1 ∧ acc.2 ≤ (tk_rgu g fac off n z acc).2) ∧ ∀ y : Int, z ≤ y → y < z + n → (tk_rgu g fac off n z acc).1 ≤ (g ((fac : Int) * y + off).toNat).1 ∧ (g ((fac : Int) * y + off).toNat).2 ≤ (tk_rgu g fac off n z acc).2 := by
  intro n
  induction n with
  | zero => intro z acc; exact ⟨⟨Int.le_refl _, Int.le_refl _⟩, fun y h1 h2 => by omega⟩
  | succ n ih =>
    intro z acc
    obtain ⟨⟨i1, i2⟩, i3⟩ := ih (z + 1) (min acc.1 (g ((fac : Int) * z + off).toNat).1, max acc.2 (g ((fac : Int) * z + off).toNat).2)
    dsimp only at i1 i2
    unfold tk_rgu
    refine ⟨⟨by omega, by omega⟩, fun y h1 h2 => ?_⟩
    by_cases e : y = z
    · subst e
      constructor <;> omega
    · exact i3 y (by omega) (by omega)
def tk_rgI (g : Nat → tk_I) (env : List tk_I) (ix : tk_V) : Option tk_I := match ix.2.1 with
  | 0 => some (g ix.2.2.2.toNat)
  | k + 1 => match env[k]? with
    | some J => if J.2 - J.1 ≤ 1000 then some (tk_rgu g ix.2.2.1 ix.2.2.2 (J.2 - J.1).toNat (J.1 + 1) (g ((ix.2.2.1 : Int) * J.1 + ix.2.2.2).toNat)) else none
    | none => none
theorem tk_rgI_ok {g : Nat → tk_I} {env : List tk_I} {vals : List Int} {ix : tk_V} {i : Nat} {I : tk_I} (hE : tk_E env vals) (hn : tk_num vals ix = some (i : Int)) (h : tk_rgI g env ix = some I) : I.1 ≤ (g i).1 ∧ (g i).2 ≤ I.2 := by
  unfold tk_rgI at h
  unfold tk_num at hn
  split at h
  · next e =>
    rw [e] at hn
    have hn : ix.2.2.2 = (i : Int) := Option.some.inj hn
    cases h
    rw [hn]
    exact ⟨Int.le_refl _, Int.le_refl _⟩
  · next k e =>
    rw [e] at hn
    dsimp only at hn
    split at h
    · next J hJ =>
      split at h
      · cases h
        obtain ⟨z, hz, z1, z2⟩ := hE.get hJ
        rw [hz] at hn
        have hn : (ix.2.2.1 : Int) * z + ix.2.2.2 = (i : Int) := Option.some.inj hn
        obtain ⟨⟨u1, u2⟩, u3⟩ := tk_rgu_ok g ix.2.2.1 ix.2.2.2 (J.2 - J.1).toNat (J.1 + 1) (g ((ix.2.2.1 : Int) * J.1 + ix.2.2.2).toNat)
        have ei : ((ix.2.2.1 : Int) * z + ix.2.2.2).toNat = i := by rw [hn]; rfl
        by_cases e0 : z = J.1
        · rw [← e0, ei] at u1 u2
          rw [← e0, ei]
          exact ⟨u1, u2⟩
        · have := u3 z (by omega) (by omega)
          rw [ei] at this
          exact this
      · cases h
    · cases h
def tk_rpu (P : Nat → Bool) (fac : Nat) (off : Int) : Nat → Int → Bool
  | 0, _ => true
  | n + 1, z => P ((fac : Int) * z + off).toNat && tk_rpu P fac off n (z + 1)
theorem tk_rpu_ok (P : Nat → Bool) (fac : Nat) (off : Int) : ∀ (n : Nat) (z : Int), tk_rpu P fac off n z = true → ∀ y : Int, z ≤ y → y < z + n → P ((fac : Int) * y + off).toNat = true := by
  intro n
  induction n with
  | zero => intro z _ y h1 h2; omega
  | succ n ih =>
    intro z h y h1 h2
    unfold tk_rpu at h
    rw [Bool.and_eq_true] at h
    by_cases e : y = z
    · subst e; exact h.1
    · exact ih (z + 1) h.2 y (by omega) (by omega)
def tk_rgP (P : Nat → Bool) (env : List tk_I) (ix : tk_V) : Bool := match ix.2.1 with
  | 0 => P ix.2.2.2.toNat
  | k + 1 => match env[k]? with
    | some J => decide (J.2 - J.1 ≤ 1000) && tk_rpu P ix.2.2.1 ix.2.2.2 (J.2 - J.1 + 1).toNat J.1
    | none => false
theorem tk_rgP_ok {P : Nat → Bool} {env : List tk_I} {vals : List Int} {ix : tk_V} {i : Nat} (hE : tk_E env vals) (hn : tk_num vals ix = some (i : Int)) (h : tk_rgP P env ix = true) : P i = true := by
  unfold tk_rgP at h
  unfold tk_num at hn
  split at h
  · next e =>
    rw [e] at hn
    have hn : ix.2.2.2 = (i : Int) := Option.some.inj hn
    rw [hn] at h
    exact h
  · next k e =>
    rw [e] at hn
    dsimp only at hn
    split at h
    · next J hJ =>
      rw [Bool.and_eq_true] at h
      obtain ⟨z, hz, z1, z2⟩ := hE.get hJ
      rw [hz] at hn
      have hn : (ix.2.2.1 : Int) * z + ix.2.2.2 = (i : Int) := Option.some.inj hn
      have := tk_rpu_ok P ix.2.2.1 ix.2.2.2 _ _ h.2 z (by omega) (by omega)
      have ei : ((ix.2.2.1 : Int) * z + ix.2.2.2).toNat = i := by rw [hn]; rfl
      rw [ei] at this
      exact this
    · cases h
/-- what is loaded of an element; places of kind 3 by their place -/
def tk_nx (reg : Nat → Nat → tk_I) (w : tk_W) (rf : List Nat) (ix : tk_V) (f : tk_F) : Option (tk_V × tk_W × List Nat) := cond (Nat.beq f.1 3) (match tk_rgI (reg f.2.1.toNat) w.1 ix with
  | some I => some ((tk_new w.1 0 I).1, ((tk_new w.1 0 I).2, w.2), rf)
  | none => none) (tk_nw w rf f)
theorem tk_nx_ok {ro : Nat → Nat → Int → Prop} {reg : Nat → Nat → tk_I} {ads tw : List Nat} {w : tk_W} {rf : List Nat} {ix : tk_V} {f : tk_F} {q : tk_V × tk_W × List Nat} {vals : List Int} {rads : List Nat} {t i : Nat} {v : Value} (hH : tk_H w vals) (h3 : rk_A2 (fun t y => tk_ty ads tw t y) rf rads) (hn : tk_num vals ix = some (i : Int)) (hv : tk_fv ro reg ads tw t i f v) (h : tk_nx reg w rf ix f = some q) : ∃ l r, tk_H q.2.1 (vals ++ l) ∧ rk_A2 (fun t y => tk_ty ads tw t y) q.2.2 (rads ++ r) ∧ tk_g (vals ++ l) (rads ++ r) q.1 v := by
  unfold tk_nx at h
  cases hb : Nat.beq f.1 3 with
  | false => rw [hb] at h; exact tk_nw_ok hH h3 hv h
  | true =>
    rw [hb] at h
    have e := Nat.eq_of_beq_eq_true hb
    dsimp only [cond] at h
    split at h
    · next I hI =>
      cases h
      unfold tk_fv at hv
      rw [e] at hv
      obtain ⟨x, rfl, x1, x2⟩ := hv
      have b := tk_rgI_ok hH.1 hn hI
      have h1 : I.1 ≤ x.toInt := by omega
      have h2 : x.toInt ≤ I.2 := by omega
      obtain ⟨-, l, hE, hnn⟩ := tk_new_ok 0 hH.1 h1 h2
      exact ⟨l, [], ⟨hE, tk_C_grow l hH.2⟩, by rw [List.append_nil]; exact h3, tk_gi (tk_new_ok 0 hH.1 h1 h2).1 hnn⟩
    · cases h
/-- the type of a reference may go by its place -/
def tk_fi (ix : tk_V) (f : tk_F) : Option tk_F := cond (Nat.beq f.1 2 && !(decide (f.2.2 = 0))) (cond (Nat.beq ix.2.1 0) (some (2, ((f.2.1.toNat + ix.2.2.2.toNat * f.2.2.toNat : Nat) : Int), 0)) none) (some f)
theorem tk_fi_ok {ro : Nat → Nat → Int → Prop} {reg : Nat → Nat → tk_I} {ads tw : List Nat} {vals : List Int} {t i : Nat} {ix : tk_V} {f f' : tk_F} {v : Value} (hn : tk_num vals ix = some (i : Int)) (hv : tk_fv ro reg ads tw t i f v) (h : tk_fi ix f = some f') : tk_fv ro reg ads tw t i f' v := by
  unfold tk_fi at h
  cases hb : (Nat.beq f.1 2 && !(decide (f.2.2 = 0))) with
  | false => rw [hb] at h; cases h; exact hv
  | true =>
    rw [hb] at h
    rw [Bool.and_eq_true] at hb
    have e := Nat.eq_of_beq_eq_true hb.1
    dsimp only [cond] at h
    cases h0 : Nat.beq ix.2.1 0 with
    | false => rw [h0] at h; cases h
    | true =>
      rw [h0] at h
      cases h
      have e0 := Nat.eq_of_beq_eq_true h0
      unfold tk_num at hn
      rw [e0] at hn
      have hn : ix.2.2.2 = (i : Int) := Option.some.inj hn
      unfold tk_fv at hv ⊢
      rw [e] at hv
      obtain ⟨y, rfl, hy⟩ := hv
      refine ⟨y, rfl, ?_⟩
      rw [hn]
      show tk_ty ads tw ((((f.2.1.toNat + ((i : Nat) : Int).toNat * f.2.2.toNat : Nat) : Int)).toNat + i * (0 : Int).toNat) y
      rw [Int.toNat_natCast, Int.toNat_natCast, Int.toNat_zero, Nat.mul_zero, Nat.add_zero]
      exact hy
def tk_f_len (TY : tk_TT) (pc : Nat) : tk_Fn := fun st => match st.2.1 with
  | a :: r => if a.1 = 2 then (match st.2.2.2.1[a.2.1]? with
    | some t => (match TY.1[t]? with
      | some (.inr q) => if q.2.1 < 2147483648 then some [(pc, (st.1, (0, 0, 0, (q.2.1 : Int)) :: r, st.2.2))] else none
      | _ => none)
    | none => none) else none
  | _ => none
def tk_f_ld0 (TY : tk_TT) (pc : Nat) : tk_Fn := fun st => match st.2.1 with
  | ix :: a :: r => if a.1 = 2 ∧ ix.1 = 0 then (match st.2.2.2.1[a.2.1]? with
    | some t => (match TY.1[t]? with
      | some (.inr (.int, n, f)) => if tk_ix st.2.2.1.1 ix n = true then (match cond (Nat.beq f.1 3) (tk_fl st.2.2.2.2 a.2.1 ix) none with
        | some v => some [(pc, (st.1, tk_nm st.2.2.1.1 v :: r, st.2.2))]
        | none => (match tk_nx TY.2.1 st.2.2.1 st.2.2.2.1 ix f with
          | some q => some [(pc, (st.1, q.1 :: r, q.2.1, q.2.2, cond (Nat.beq f.1 3) ((a.2.1, ix, q.1) :: st.2.2.2.2) st.2.2.2.2))]
          | none => none)) else none
      | _ => none)
    | none => none) else none
  | _ => none
def tk_f_ld1 (TY : tk_TT) (pc : Nat) : tk_Fn := fun st => match st.2.1 with
  | ix :: a :: r => if a.1 = 2 ∧ ix.1 = 0 then (match st.2.2.2.1[a.2.1]? with
    | some t => (match TY.1[t]? with
      | some (.inr (.byte, n, f)) => if tk_ix st.2.2.1.1 ix n = true then (match tk_nw st.2.2.1 st.2.2.2.1 f with
        | some q => some [(pc, (st.1, q.1 :: r, q.2.1, q.2.2, st.2.2.2.2))]
        | none => none) else none
      | _ => none)
    | none => none) else none
  | _ => none
def tk_f_ld2 (TY : tk_TT) (pc : Nat) : tk_Fn := fun st => match st.2.1 with
  | ix :: a :: r => if a.1 = 2 ∧ ix.1 = 0 then (match st.2.2.2.1[a.2.1]? with
    | some t => (match TY.1[t]? with
      | some (.inr (.long, n, f)) => if tk_ix st.2.2.1.1 ix n = true then (match cond (Nat.beq f.1 6) (tk_fl st.2.2.2.2 a.2.1 ix) none with
        | some v => some [(pc, (st.1, tk_nm st.2.2.1.1 v :: r, st.2.2))]
        | none => (match tk_nw st.2.2.1 st.2.2.2.1 f with
          | some q => some [(pc, (st.1, q.1 :: r, q.2.1, q.2.2, cond (Nat.beq f.1 6) ((a.2.1, ix, q.1) :: st.2.2.2.2) st.2.2.2.2))]
          | none => none)) else none
      | _ => none)
    | none => none) else none
  | _ => none
def tk_f_ld3 (TY : tk_TT) (pc : Nat) : tk_Fn := fun st => match st.2.1 with
  | ix :: a :: r => if a.1 = 2 ∧ ix.1 = 0 then (match st.2.2.2.1[a.2.1]? with
    | some t => (match TY.1[t]? with
      | some (.inr (.object _, n, f)) => if tk_ix st.2.2.1.1 ix n = true then (match cond (Nat.beq f.1 2 && !(decide (f.2.2 = 0))) (tk_fl st.2.2.2.2 a.2.1 ix) none with
        | some v => some [(pc, (st.1, tk_nm st.2.2.1.1 v :: r, st.2.2))]
        | none => (match tk_fi ix f with
          | some f1 => (match tk_nw st.2.2.1 st.2.2.2.1 f1 with
            | some q => some [(pc, (st.1, q.1 :: r, q.2.1, q.2.2, cond (Nat.beq f.1 2 && !(decide (f.2.2 = 0))) ((a.2.1, ix, q.1) :: st.2.2.2.2) st.2.2.2.2))]
            | none => none)
          | none => none)) else none
      | _ => none)
    | none => none) else none
  | _ => none
def tk_f_ld4 (TY : tk_TT) (pc : Nat) : tk_Fn := fun st => match st.2.1 with
  | ix :: a :: r => if a.1 = 2 ∧ ix.1 = 0 then (match st.2.2.2.1[a.2.1]? with
    | some t => (match TY.1[t]? with
      | some (.inr (.array _, n, f)) => if tk_ix st.2.2.1.1 ix n = true then (match cond (Nat.beq f.1 2 && !(decide (f.2.2 = 0))) (tk_fl st.2.2.2.2 a.2.1 ix) none with
        | some v => some [(pc, (st.1, tk_nm st.2.2.1.1 v :: r, st.2.2))]
        | none => (match tk_fi ix f with
          | some f1 => (match tk_nw st.2.2.1 st.2.2.2.1 f1 with
            | some q => some [(pc, (st.1, q.1 :: r, q.2.1, q.2.2, cond (Nat.beq f.1 2 && !(decide (f.2.2 = 0))) ((a.2.1, ix, q.1) :: st.2.2.2.2) st.2.2.2.2))]
            | none => none)
          | none => none)) else none
      | _ => none)
    | none => none) else none
  | _ => none
section TKJ
variable {p : Program} {l : Launch} {e : Env} {R : Room} {s : State} {m : MethodId} {args : Array Value} {below : List Frame} {meth : Method} {c : Code} {Q : State → Prop} {cc : ByteArray} {D : va_G} {cl : List vw_C} {Ad : Nat → Prop} {nL : Nat} {vals0 : List Int} {rads0 : List Nat}
variable {mods : List (Nat × Nat)} {ws0 : va_W} {tbl xw : List Jvm.Cond} {fty : rk_F} {cln : List String} {own : String} {lk : List (Nat × Nat × Nat × Nat)} {cs : List (Nat × Value)} {TY : tk_TT} {ro : Nat → Nat → Int → Prop} {X : va_W → Prop} {ads tw : List Nat}
set_option maxHeartbeats 2000000 in
theorem tk_ld0_ok (hx : p.tables.exec = Jvm.exec) (hb : c.code = cc) (hF : rk_Fr s m args meth D cl Ad tbl xw fty cln own lk cs) {pc : Nat} {st : tk_S} {res : List (Nat × tk_S)} (hdg : decode cc pc = .ok (.iaload, 1)) (h : tk_f_ld0 TY (pc + 1) st = some res) (kk : ∀ q ∈ res, tk_St (rk_KW p l e R s m args below meth c Q) nL (tk_hr mods ws0 TY ro X ads tw s D cl Ad vals0 rads0) q.1 q.2) : tk_St (rk_KW p l e R s m args below meth c Q) nL (tk_hr mods ws0 TY ro X ads tw s D cl Ad vals0 rads0) pc st := by
  obtain ⟨hts, hxw, hown, hK, hA, hcl, hlk, hini, hac, hcs⟩ := hF
  obtain ⟨lo, sk, w, rf, fa⟩ := st
  intro vals rads H locs ls stk lc hH hR hl hL hS
  dsimp only at hH hR hL hS
  unfold tk_f_ld0 at h
  split at h
  · next ix a r e1 =>
    dsimp only at e1
    subst e1
    split at h
    · next hk =>
      split at h
      · next t ht =>
        split at h
        · next n f hT =>
          split at h
          · next hix =>
            dsimp only at ht
            obtain ⟨vi, k0, rfl, gi, hS0⟩ := hS.cons
            obtain ⟨va, k1, rfl, hg, hS1⟩ := hS0.cons
            obtain ⟨xi, rfl, hxi⟩ := tk_g0 gi hk.2
            obtain ⟨x, hax, rfl⟩ := tk_g2 hg hk.1
            obtain ⟨hv0, hr0, h3, ws, h4, h5, h6, h7, h8, hun, h9⟩ := id hR
            obtain ⟨x', hax', hty⟩ := h3.get ht
            rw [hax] at hax'
            cases hax'
            obtain ⟨j, e1, hw, hj, hc1⟩ := tk_cell h4 h5 hty
            unfold tk_cl at hc1
            rw [hT] at hc1
            obtain ⟨cA, hA1, hA2, g, rfl, hf⟩ := hc1
            obtain ⟨hin, hlt, hti⟩ := tk_ix_ok hH.1 hxi hix
            have hnn : tk_num vals ix = some ((xi.toNatClampNeg : Nat) : Int) := by rw [hti]; exact hxi
            have hp : tk_pos (.inl (cA, n, .inl g)) xi.toNatClampNeg = some (.int (g xi.toNatClampNeg)) := by
              show (if xi.toNatClampNeg < n then some (Value.int (g xi.toNatClampNeg)) else none) = _
              rw [if_pos hlt]
            split at h
            · next v0 hv0' =>
              cases h
              have hfl : tk_fl fa a.2.1 ix = some v0 := by
                cases hb : Nat.beq f.1 3 with
                | true => rw [hb] at hv0'; exact hv0'
                | false => rw [hb] at hv0'; cases hv0'
              obtain ⟨u, g3, g4⟩ := tk_fl_ok h9 h7 hfl hax hnn hw
              rw [hp] at g3
              obtain rfl := Option.some.inj g3
              refine va_iald hx hb (rk_K1 hK hA1 hA2) h6 j 0 hw rfl hin hdg ?_
              exact kk _ (List.mem_singleton.mpr rfl) vals rads H locs ls _ lc hH hR hl hL ⟨tk_nm_ok hH.1 g4, hS1⟩
            · split at h
              · next q hq =>
                cases h
                obtain ⟨l1, r1, q1, q2, q3⟩ := tk_nx_ok hH h3 hnn (hf _ hlt) hq
                obtain ⟨kv, hv0⟩ := hv0
                obtain ⟨kr, hr0⟩ := hr0
                refine va_iald hx hb (rk_K1 hK hA1 hA2) h6 j 0 hw rfl hin hdg ?_
                refine kk _ (List.mem_singleton.mpr rfl) (vals ++ l1) (rads ++ r1) H locs ls _ lc q1 ⟨⟨kv ++ l1, by rw [hv0, List.append_assoc]⟩, ⟨kr ++ r1, by rw [hr0, List.append_assoc]⟩, q2, ws, h4, h5, h6, h7, h8, hun, ?_⟩ hl (hL.grow l1 r1) ⟨q3, tk_skG hS1 l1 r1⟩
                have hold : ∀ z ∈ fa, tk_fk (vals ++ l1) (rads ++ r1) ws z := fun z hz => tk_fk_grow l1 r1 (h9 z hz)
                cases hb : Nat.beq f.1 3 with
                | true =>
                  intro z hz
                  rcases List.mem_cons.mp hz with rfl | hz
                  · exact ⟨x, j, xi.toNatClampNeg, _, _, by rw [List.getElem?_append_left (List.getElem?_eq_some_iff.mp hax).1]; exact hax, tk_num_grow l1 hnn, hw, hp, q3⟩
                  · exact hold z hz
                | false => exact hold
              · cases h
          · cases h
        · cases h
      · cases h
    · cases h
  · cases h
theorem tk_ld1_ok (hx : p.tables.exec = Jvm.exec) (hb : c.code = cc) (hF : rk_Fr s m args meth D cl Ad tbl xw fty cln own lk cs) {pc : Nat} {st : tk_S} {res : List (Nat × tk_S)} (hdg : decode cc pc = .ok (.baload, 1)) (h : tk_f_ld1 TY (pc + 1) st = some res) (kk : ∀ q ∈ res, tk_St (rk_KW p l e R s m args below meth c Q) nL (tk_hr mods ws0 TY ro X ads tw s D cl Ad vals0 rads0) q.1 q.2) : tk_St (rk_KW p l e R s m args below meth c Q) nL (tk_hr mods ws0 TY ro X ads tw s D cl Ad vals0 rads0) pc st := by
  obtain ⟨hts, hxw, hown, hK, hA, hcl, hlk, hini, hac, hcs⟩ := hF
  obtain ⟨lo, sk, w, rf, fa⟩ := st
  intro vals rads H locs ls stk lc hH hR hl hL hS
  dsimp only at hH hR hL hS
  unfold tk_f_ld1 at h
  split at h
  · next ix a r e1 =>
    dsimp only at e1
    subst e1
    split at h
    · next hk =>
      split at h
      · next t ht =>
        split at h
        · next n f hT =>
          split at h
          · next hix =>
            split at h
            · next q hq =>
              cases h
              dsimp only at ht
              obtain ⟨vi, k0, rfl, gi, hS0⟩ := hS.cons
              obtain ⟨va, k1, rfl, hg, hS1⟩ := hS0.cons
              obtain ⟨xi, rfl, hxi⟩ := tk_g0 gi hk.2
              obtain ⟨x, hax, rfl⟩ := tk_g2 hg hk.1
              obtain ⟨hv0, hr0, h3, ws, h4, h5, h6, h7, h8, hun, h9⟩ := id hR
              obtain ⟨x', hax', hty⟩ := h3.get ht
              rw [hax] at hax'
              cases hax'
              obtain ⟨j, e1, hw, hj, hc1⟩ := tk_cell h4 h5 hty
              unfold tk_cl at hc1
              rw [hT] at hc1
              obtain ⟨cA, hA1, hA2, g, rfl, hf⟩ := hc1
              obtain ⟨hin, hlt, hti⟩ := tk_ix_ok hH.1 hxi hix
              obtain ⟨l1, r1, q1, q2, q3⟩ := tk_nw_ok hH h3 (hf _ hlt) hq
              obtain ⟨kv, hv0⟩ := hv0
              obtain ⟨kr, hr0⟩ := hr0
              refine va_bald hx hb (rk_K1 hK hA1 hA2) h6 j 0 hw rfl hin hdg ?_
              exact kk _ (List.mem_singleton.mpr rfl) (vals ++ l1) (rads ++ r1) H locs ls _ lc q1 ⟨⟨kv ++ l1, by rw [hv0, List.append_assoc]⟩, ⟨kr ++ r1, by rw [hr0, List.append_assoc]⟩, q2, ws, h4, h5, h6, h7, h8, hun, fun z hz => tk_fk_grow l1 r1 (h9 z hz)⟩ hl (hL.grow l1 r1) ⟨q3, tk_skG hS1 l1 r1⟩
            · cases h
          · cases h
        · cases h
      · cases h
    · cases h
  · cases h
set_option maxHeartbeats 2000000 in
theorem tk_ld2_ok (hx : p.tables.exec = Jvm.exec) (hb : c.code = cc) (hF : rk_Fr s m args meth D cl Ad tbl xw fty cln own lk cs) {pc : Nat} {st : tk_S} {res : List (Nat × tk_S)} (hdg : decode cc pc = .ok (.laload, 1)) (h : tk_f_ld2 TY (pc + 1) st = some res) (kk : ∀ q ∈ res, tk_St (rk_KW p l e R s m args below meth c Q) nL (tk_hr mods ws0 TY ro X ads tw s D cl Ad vals0 rads0) q.1 q.2) : tk_St (rk_KW p l e R s m args below meth c Q) nL (tk_hr mods ws0 TY ro X ads tw s D cl Ad vals0 rads0) pc st := by
  obtain ⟨hts, hxw, hown, hK, hA, hcl, hlk, hini, hac, hcs⟩ := hF
  obtain ⟨lo, sk, w, rf, fa⟩ := st
  intro vals rads H locs ls stk lc hH hR hl hL hS
  dsimp only at hH hR hL hS
  unfold tk_f_ld2 at h
  split at h
  · next ix a r e1 =>
    dsimp only at e1
    subst e1
    split at h
    · next hk =>
      split at h
      · next t ht =>
        split at h
        · next n f hT =>
          split at h
          · next hix =>
            dsimp only at ht
            obtain ⟨vi, k0, rfl, gi, hS0⟩ := hS.cons
            obtain ⟨va, k1, rfl, hg, hS1⟩ := hS0.cons
            obtain ⟨xi, rfl, hxi⟩ := tk_g0 gi hk.2
            obtain ⟨x, hax, rfl⟩ := tk_g2 hg hk.1
            obtain ⟨hv0, hr0, h3, ws, h4, h5, h6, h7, h8, hun, h9⟩ := id hR
            obtain ⟨x', hax', hty⟩ := h3.get ht
            rw [hax] at hax'
            cases hax'
            obtain ⟨j, e1, hw, hj, hc1⟩ := tk_cell h4 h5 hty
            unfold tk_cl at hc1
            rw [hT] at hc1
            obtain ⟨cA, hA1, hA2, g, rfl, hf⟩ := hc1
            obtain ⟨hin, hlt, hti⟩ := tk_ix_ok hH.1 hxi hix
            have hnn : tk_num vals ix = some ((xi.toNatClampNeg : Nat) : Int) := by rw [hti]; exact hxi
            have hp : tk_pos (.inl (cA, n, .inr (.inl g))) xi.toNatClampNeg = some (.long (g xi.toNatClampNeg)) := by
              show (if xi.toNatClampNeg < n then some (Value.long (g xi.toNatClampNeg)) else none) = _
              rw [if_pos hlt]
            split at h
            · next v0 hv0' =>
              cases h
              have hfl : tk_fl fa a.2.1 ix = some v0 := by
                cases hb : Nat.beq f.1 6 with
                | true => rw [hb] at hv0'; exact hv0'
                | false => rw [hb] at hv0'; cases hv0'
              obtain ⟨u, g3, g4⟩ := tk_fl_ok h9 h7 hfl hax hnn hw
              rw [hp] at g3
              obtain rfl := Option.some.inj g3
              refine va_lald hx hb (rk_K1 hK hA1 hA2) h6 j 0 hw rfl hin hdg ?_
              exact kk _ (List.mem_singleton.mpr rfl) vals rads H locs ls _ lc hH hR hl hL ⟨tk_nm_ok hH.1 g4, hS1⟩
            · split at h
              · next q hq =>
                cases h
                obtain ⟨l1, r1, q1, q2, q3⟩ := tk_nw_ok hH h3 (hf _ hlt) hq
                obtain ⟨kv, hv0⟩ := hv0
                obtain ⟨kr, hr0⟩ := hr0
                refine va_lald hx hb (rk_K1 hK hA1 hA2) h6 j 0 hw rfl hin hdg ?_
                refine kk _ (List.mem_singleton.mpr rfl) (vals ++ l1) (rads ++ r1) H locs ls _ lc q1 ⟨⟨kv ++ l1, by rw [hv0, List.append_assoc]⟩, ⟨kr ++ r1, by rw [hr0, List.append_assoc]⟩, q2, ws, h4, h5, h6, h7, h8, hun, ?_⟩ hl (hL.grow l1 r1) ⟨q3, tk_skG hS1 l1 r1⟩
                have hold : ∀ z ∈ fa, tk_fk (vals ++ l1) (rads ++ r1) ws z := fun z hz => tk_fk_grow l1 r1 (h9 z hz)
                cases hb : Nat.beq f.1 6 with
                | true =>
                  intro z hz
                  rcases List.mem_cons.mp hz with rfl | hz
                  · exact ⟨x, j, xi.toNatClampNeg, _, _, by rw [List.getElem?_append_left (List.getElem?_eq_some_iff.mp hax).1]; exact hax, tk_num_grow l1 hnn, hw, hp, q3⟩
                  · exact hold z hz
                | false => exact hold
              · cases h
          · cases h
        · cases h
      · cases h
    · cases h
  · cases h
set_option maxHeartbeats 2000000 in
theorem tk_ld3_ok (hx : p.tables.exec = Jvm.exec) (hb : c.code = cc) (hF : rk_Fr s m args meth D cl Ad tbl xw fty cln own lk cs) {pc : Nat} {st : tk_S} {res : List (Nat × tk_S)} (hdg : decode cc pc = .ok (.aaload, 1)) (h : tk_f_ld3 TY (pc + 1) st = some res) (kk : ∀ q ∈ res, tk_St (rk_KW p l e R s m args below meth c Q) nL (tk_hr mods ws0 TY ro X ads tw s D cl Ad vals0 rads0) q.1 q.2) : tk_St (rk_KW p l e R s m args below meth c Q) nL (tk_hr mods ws0 TY ro X ads tw s D cl Ad vals0 rads0) pc st := by
  obtain ⟨hts, hxw, hown, hK, hA, hcl, hlk, hini, hac, hcs⟩ := hF
  obtain ⟨lo, sk, w, rf, fa⟩ := st
  intro vals rads H locs ls stk lc hH hR hl hL hS
  dsimp only at hH hR hL hS
  unfold tk_f_ld3 at h
  split at h
  · next ix a r e1 =>
    dsimp only at e1
    subst e1
    split at h
    · next hk =>
      split at h
      · next t ht =>
        split at h
        · next C n f hT =>
          split at h
          · next hix =>
            dsimp only at ht
            obtain ⟨vi, k0, rfl, gi, hS0⟩ := hS.cons
            obtain ⟨va, k1, rfl, hg, hS1⟩ := hS0.cons
            obtain ⟨xi, rfl, hxi⟩ := tk_g0 gi hk.2
            obtain ⟨x, hax, rfl⟩ := tk_g2 hg hk.1
            obtain ⟨hv0, hr0, h3, ws, h4, h5, h6, h7, h8, hun, h9⟩ := id hR
            obtain ⟨x', hax', hty⟩ := h3.get ht
            rw [hax] at hax'
            cases hax'
            obtain ⟨j, e1, hw, hj, hc1⟩ := tk_cell h4 h5 hty
            unfold tk_cl at hc1
            rw [hT] at hc1
            obtain ⟨cA, hA1, hA2, g, rfl, hf⟩ := hc1
            obtain ⟨hin, hlt, hti⟩ := tk_ix_ok hH.1 hxi hix
            have hnn : tk_num vals ix = some ((xi.toNatClampNeg : Nat) : Int) := by rw [hti]; exact hxi
            have hp : tk_pos (.inl (cA, n, .inr (.inr (.inr (.inr g))))) xi.toNatClampNeg = some (va_rf (g xi.toNatClampNeg)) := by
              show (if xi.toNatClampNeg < n then some (va_rf (g xi.toNatClampNeg)) else none) = _
              rw [if_pos hlt]
            split at h
            · next v0 hv0' =>
              cases h
              have hfl : tk_fl fa a.2.1 ix = some v0 := by
                cases hb : (Nat.beq f.1 2 && !(decide (f.2.2 = 0))) with
                | true => rw [hb] at hv0'; exact hv0'
                | false => rw [hb] at hv0'; cases hv0'
              obtain ⟨u, g3, g4⟩ := tk_fl_ok h9 h7 hfl hax hnn hw
              rw [hp] at g3
              obtain rfl := Option.some.inj g3
              refine va_aldq hx hb (rk_K1 hK hA1 hA2) h6 j 0 hw rfl hin hdg ?_
              exact kk _ (List.mem_singleton.mpr rfl) vals rads H locs ls _ lc hH hR hl hL ⟨tk_nm_ok hH.1 g4, hS1⟩
            · split at h
              · next f1 hf1 =>
               split at h
               · next q hq =>
                cases h
                obtain ⟨l1, r1, q1, q2, q3⟩ := tk_nw_ok hH h3 (tk_fi_ok hnn (hf _ hlt) hf1) hq
                obtain ⟨kv, hv0⟩ := hv0
                obtain ⟨kr, hr0⟩ := hr0
                refine va_aldq hx hb (rk_K1 hK hA1 hA2) h6 j 0 hw rfl hin hdg ?_
                refine kk _ (List.mem_singleton.mpr rfl) (vals ++ l1) (rads ++ r1) H locs ls _ lc q1 ⟨⟨kv ++ l1, by rw [hv0, List.append_assoc]⟩, ⟨kr ++ r1, by rw [hr0, List.append_assoc]⟩, q2, ws, h4, h5, h6, h7, h8, hun, ?_⟩ hl (hL.grow l1 r1) ⟨q3, tk_skG hS1 l1 r1⟩
                have hold : ∀ z ∈ fa, tk_fk (vals ++ l1) (rads ++ r1) ws z := fun z hz => tk_fk_grow l1 r1 (h9 z hz)
                cases hb : (Nat.beq f.1 2 && !(decide (f.2.2 = 0))) with
                | true =>
                  intro z hz
                  rcases List.mem_cons.mp hz with rfl | hz
                  · exact ⟨x, j, xi.toNatClampNeg, _, _, by rw [List.getElem?_append_left (List.getElem?_eq_some_iff.mp hax).1]; exact hax, tk_num_grow l1 hnn, hw, hp, q3⟩
                  · exact hold z hz
                | false => exact hold
               · cases h
              · cases h
          · cases h
        · cases h
      · cases h
    · cases h
  · cases h
set_option maxHeartbeats 2000000 in
theorem tk_ld4_ok (hx : p.tables.exec = Jvm.exec) (hb : c.code = cc) (hF : rk_Fr s m args meth D cl Ad tbl xw fty cln own lk cs) {pc : Nat} {st : tk_S} {res : List (Nat × tk_S)} (hdg : decode cc pc = .ok (.aaload, 1)) (h : tk_f_ld4 TY (pc + 1) st = some res) (kk : ∀ q ∈ res, tk_St (rk_KW p l e R s m args below meth c Q) nL (tk_hr mods ws0 TY ro X ads tw s D cl Ad vals0 rads0) q.1 q.2) : tk_St (rk_KW p l e R s m args below meth c Q) nL (tk_hr mods ws0 TY ro X ads tw s D cl Ad vals0 rads0) pc st := by
  obtain ⟨hts, hxw, hown, hK, hA, hcl, hlk, hini, hac, hcs⟩ := hF
  obtain ⟨lo, sk, w, rf, fa⟩ := st
  intro vals rads H locs ls stk lc hH hR hl hL hS
  dsimp only at hH hR hL hS
  unfold tk_f_ld4 at h
  split at h
  · next ix a r e1 =>
    dsimp only at e1
    subst e1
    split at h
    · next hk =>
      split at h
      · next t ht =>
        split at h
        · next C n f hT =>
          split at h
          · next hix =>
            dsimp only at ht
            obtain ⟨vi, k0, rfl, gi, hS0⟩ := hS.cons
            obtain ⟨va, k1, rfl, hg, hS1⟩ := hS0.cons
            obtain ⟨xi, rfl, hxi⟩ := tk_g0 gi hk.2
            obtain ⟨x, hax, rfl⟩ := tk_g2 hg hk.1
            obtain ⟨hv0, hr0, h3, ws, h4, h5, h6, h7, h8, hun, h9⟩ := id hR
            obtain ⟨x', hax', hty⟩ := h3.get ht
            rw [hax] at hax'
            cases hax'
            obtain ⟨j, e1, hw, hj, hc1⟩ := tk_cell h4 h5 hty
            unfold tk_cl at hc1
            rw [hT] at hc1
            obtain ⟨cA, hA1, hA2, g, rfl, hf⟩ := hc1
            obtain ⟨hin, hlt, hti⟩ := tk_ix_ok hH.1 hxi hix
            have hnn : tk_num vals ix = some ((xi.toNatClampNeg : Nat) : Int) := by rw [hti]; exact hxi
            have hp : tk_pos (.inl (cA, n, .inr (.inr (.inr (.inr g))))) xi.toNatClampNeg = some (va_rf (g xi.toNatClampNeg)) := by
              show (if xi.toNatClampNeg < n then some (va_rf (g xi.toNatClampNeg)) else none) = _
              rw [if_pos hlt]
            split at h
            · next v0 hv0' =>
              cases h
              have hfl : tk_fl fa a.2.1 ix = some v0 := by
                cases hb : (Nat.beq f.1 2 && !(decide (f.2.2 = 0))) with
                | true => rw [hb] at hv0'; exact hv0'
                | false => rw [hb] at hv0'; cases hv0'
              obtain ⟨u, g3, g4⟩ := tk_fl_ok h9 h7 hfl hax hnn hw
              rw [hp] at g3
              obtain rfl := Option.some.inj g3
              refine va_alda hx hb (rk_K1 hK hA1 hA2) h6 j 0 hw rfl hin hdg ?_
              exact kk _ (List.mem_singleton.mpr rfl) vals rads H locs ls _ lc hH hR hl hL ⟨tk_nm_ok hH.1 g4, hS1⟩
            · split at h
              · next f1 hf1 =>
               split at h
               · next q hq =>
                cases h
                obtain ⟨l1, r1, q1, q2, q3⟩ := tk_nw_ok hH h3 (tk_fi_ok hnn (hf _ hlt) hf1) hq
                obtain ⟨kv, hv0⟩ := hv0
                obtain ⟨kr, hr0⟩ := hr0
                refine va_alda hx hb (rk_K1 hK hA1 hA2) h6 j 0 hw rfl hin hdg ?_
                refine kk _ (List.mem_singleton.mpr rfl) (vals ++ l1) (rads ++ r1) H locs ls _ lc q1 ⟨⟨kv ++ l1, by rw [hv0, List.append_assoc]⟩, ⟨kr ++ r1, by rw [hr0, List.append_assoc]⟩, q2, ws, h4, h5, h6, h7, h8, hun, ?_⟩ hl (hL.grow l1 r1) ⟨q3, tk_skG hS1 l1 r1⟩
                have hold : ∀ z ∈ fa, tk_fk (vals ++ l1) (rads ++ r1) ws z := fun z hz => tk_fk_grow l1 r1 (h9 z hz)
                cases hb : (Nat.beq f.1 2 && !(decide (f.2.2 = 0))) with
                | true =>
                  intro z hz
                  rcases List.mem_cons.mp hz with rfl | hz
                  · exact ⟨x, j, xi.toNatClampNeg, _, _, by rw [List.getElem?_append_left (List.getElem?_eq_some_iff.mp hax).1]; exact hax, tk_num_grow l1 hnn, hw, hp, q3⟩
                  · exact hold z hz
                | false => exact hold
               · cases h
              · cases h
          · cases h
        · cases h
      · cases h
    · cases h
  · cases h
theorem tk_len_ok (hx : p.tables.exec = Jvm.exec) (hb : c.code = cc) (hF : rk_Fr s m args meth D cl Ad tbl xw fty cln own lk cs) {pc : Nat} {st : tk_S} {res : List (Nat × tk_S)} (hdg : decode cc pc = .ok (.arraylength, 1)) (h : tk_f_len TY (pc + 1) st = some res) (kk : ∀ q ∈ res, tk_St (rk_KW p l e R s m args below meth c Q) nL (tk_hr mods ws0 TY ro X ads tw s D cl Ad vals0 rads0) q.1 q.2) : tk_St (rk_KW p l e R s m args below meth c Q) nL (tk_hr mods ws0 TY ro X ads tw s D cl Ad vals0 rads0) pc st := by
  obtain ⟨hts, hxw, hown, hK, hA, hcl, hlk, hini, hac, hcs⟩ := hF
  obtain ⟨lo, sk, w, rf, fa⟩ := st
  intro vals rads H locs ls stk lc hH hR hl hL hS
  dsimp only at hH hR hL hS
  unfold tk_f_len at h
  split at h
  · next a r e1 =>
    dsimp only at e1
    subst e1
    split at h
    · next hk =>
      split at h
      · next t ht =>
        split at h
        · next q hT =>
          split at h
          · next hn =>
            cases h
            dsimp only at ht
            obtain ⟨va, k1, rfl, hg, hS1⟩ := hS.cons
            obtain ⟨x, hax, rfl⟩ := tk_g2 hg hk
            obtain ⟨hv0, hr0, h3, ws, h4, h5, h6, h7, h8, hun, h9⟩ := id hR
            obtain ⟨x', hax', hty⟩ := h3.get ht
            rw [hax] at hax'
            cases hax'
            obtain ⟨j, e1, hw, hj, hc1⟩ := tk_cell h4 h5 hty
            unfold tk_cl at hc1
            rw [hT] at hc1
            obtain ⟨cA, hA1, hA2, harr⟩ := hc1
            have he : ∃ z : vp_A, e1 = .inl (cA, z) ∧ z.1 = q.2.1 := by
              unfold tk_ar at harr
              split at harr
              all_goals first
                | exact harr.elim
                | (obtain ⟨f, rfl, -⟩ := harr
                   exact ⟨_, rfl, rfl⟩)
            obtain ⟨z, rfl, hz⟩ := he
            refine va_alen hx hb (rk_K1 hK hA1 hA2) h6 j 0 hw rfl (v := Int32.ofNat q.2.1) (by rw [hz]) hdg ?_
            exact kk _ (List.mem_singleton.mpr rfl) vals rads H locs ls _ lc hH hR hl hL ⟨tk_gi rfl (congrArg some (show ((q.2.1 : Nat) : Int) = (Int32.ofNat q.2.1).toInt from (nI_toInt (n := q.2.1) hn).symm)), hS1⟩
          · cases h
        · cases h
      · cases h
    · cases h
  · cases h
/-- a value that a field, an element may be -/
def tk_fits (env : List tk_I) (f : tk_F) (v : tk_V) : Bool := match f.1 with
  | 0 => v.1 == 0 && (match tk_iv env v with
    | some I => decide (f.2.1 ≤ I.1) && decide (I.2 ≤ f.2.2)
    | none => false)
  | 1 => v.1 == 1 && (match tk_iv env v with
    | some I => decide (f.2.1 ≤ I.1) && decide (I.2 ≤ f.2.2)
    | none => false)
  | 6 => v.1 == 1 && (match tk_iv env v with
    | some I => decide (f.2.1 ≤ I.1) && decide (I.2 ≤ f.2.2)
    | none => false)
  | _ => false
theorem tk_fits_ok {reg : Nat → Nat → tk_I} {env : List tk_I} {f : tk_F} {v : tk_V} {vals : List Int} {rads : List Nat} {u : Value} (t i : Nat) (hE : tk_E env vals) (hg : tk_g vals rads v u) (h : tk_fits env f v = true) : tk_fv ro reg ads tw t i f u ∧ ((v.1 = 0 ∧ ∃ x : Int32, u = .int x ∧ tk_num vals v = some x.toInt) ∨ (v.1 = 1 ∧ ∃ x : Int64, u = .long x ∧ tk_num vals v = some x.toInt)) := by
  unfold tk_fits at h
  unfold tk_fv
  split at h
  · next e =>
    rw [e]
    rw [Bool.and_eq_true, beq_iff_eq] at h
    obtain ⟨x, rfl, hx⟩ := tk_g0 hg h.1
    have h2 := h.2
    split at h2
    · next I hI =>
      have b := tk_iv_ok hE hx hI
      rw [Bool.and_eq_true, decide_eq_true_eq, decide_eq_true_eq] at h2
      exact ⟨⟨x, rfl, by omega, by omega⟩, Or.inl ⟨h.1, x, rfl, hx⟩⟩
    · cases h2
  · next e =>
    rw [e]
    rw [Bool.and_eq_true, beq_iff_eq] at h
    obtain ⟨x, rfl, hx⟩ := tk_g1 hg h.1
    have h2 := h.2
    split at h2
    · next I hI =>
      have b := tk_iv_ok hE hx hI
      rw [Bool.and_eq_true, decide_eq_true_eq, decide_eq_true_eq] at h2
      exact ⟨⟨x, rfl, by omega, by omega⟩, Or.inr ⟨h.1, x, rfl, hx⟩⟩
    · cases h2
  · next e =>
    rw [e]
    rw [Bool.and_eq_true, beq_iff_eq] at h
    obtain ⟨x, rfl, hx⟩ := tk_g1 hg h.1
    have h2 := h.2
    split at h2
    · next I hI =>
      have b := tk_iv_ok hE hx hI
      rw [Bool.and_eq_true, decide_eq_true_eq, decide_eq_true_eq] at h2
      exact ⟨⟨x, rfl, by omega, by omega⟩, Or.inr ⟨h.1, x, rfl, hx⟩⟩
    · cases h2
  · cases h
/-- two places that surely aren't one -/
def tk_dif (w : tk_W) (a b : tk_V) : Bool := tk_le w.1 w.2 a b 1 || tk_le w.1 w.2 b a 1
theorem tk_dif_ok {w : tk_W} {vals : List Int} {a b : tk_V} {x y : Int} (hH : tk_H w vals) (ha : tk_num vals a = some x) (hb : tk_num vals b = some y) (h : tk_dif w a b = true) : ¬ x = y := by
  unfold tk_dif at h
  rw [Bool.or_eq_true] at h
  rcases h with h | h
  · have := tk_le_ok hH.1 hH.2 ha hb h; omega
  · have := tk_le_ok hH.1 hH.2 hb ha h; omega
/-- a fact that stays where a place of type t is written -/
def tk_kp (w : tk_W) (rf : List Nat) (t : Nat) (ix : tk_V) (q : Nat × tk_V × tk_V) : Bool := match rf[q.1]? with
  | some t' => cond (Nat.beq t' t) (tk_dif w q.2.1 ix) true
  | none => false
theorem tk_fk_set {rf : List Nat} {w : tk_W} {vals : List Int} {rads : List Nat} {ws : va_W} {q : Nat × tk_V × tk_V} {j x t i0 : Nat} {ix : tk_V} {e e' : va_E} (hH : tk_H w vals) (h3 : rk_A2 (fun t y => tk_ty ads tw t y) rf rads) (h4 : ws.map Prod.fst = ads) (h7 : va_D Ad ws) (hw : ws[j]? = some (x, e)) (hj : tw[j]? = some t) (hix : tk_num vals ix = some (i0 : Int)) (hd : ∀ i, ¬ i = i0 → tk_pos e' i = tk_pos e i) (hk : tk_kp w rf t ix q = true) (h : tk_fk vals rads ws q) : tk_fk vals rads (ws.set j (x, e')) q := by
  obtain ⟨y, j', i, e2, v, g1, g2, g3, g4, g5⟩ := h
  by_cases ej : j = j'
  · subst ej
    rw [hw] at g3
    cases g3
    obtain ⟨t', ht', j2, hj2, hj3⟩ := h3.getR g1
    rw [← h4, List.getElem?_map] at hj2
    obtain ⟨z, hz, ez⟩ := Option.map_eq_some_iff.mp hj2
    have e2 := h7.1 j2 j z _ hz hw ez
    subst e2
    rw [hj] at hj3
    cases hj3
    unfold tk_kp at hk
    rw [ht'] at hk
    have hk : cond (Nat.beq t t) (tk_dif w q.2.1 ix) true = true := hk
    rw [show Nat.beq t t = true from Nat.beq_refl t] at hk
    have hne := tk_dif_ok hH g2 hix hk
    exact ⟨x, j2, i, e', v, g1, g2, List.getElem?_set_self (List.getElem?_eq_some_iff.mp hw).1, by rw [hd i (fun z => hne (by rw [z]))]; exact g4, g5⟩
  · exact ⟨y, j', i, e2, v, g1, g2, by rw [List.getElem?_set_ne ej]; exact g3, g4, g5⟩
/-- an element of an array may be written -/
def tk_mwx (TY : tk_TT) (mods : List (Nat × Nat)) (t : Nat) (env : List tk_I) (ix : tk_V) : Bool := match TY.2.2.1 t with
  | none => tk_mw TY mods t 0
  | some g => tk_rgP (fun i => tk_mw TY mods t (g i)) env ix
theorem tk_mwx_ok {env : List tk_I} {vals : List Int} {t i : Nat} {ix : tk_V} (hE : tk_E env vals) (hn : tk_num vals ix = some (i : Int)) (h : tk_mwx TY mods t env ix = true) : tk_mw TY mods t (tk_rg TY t i) = true := by
  unfold tk_mwx at h
  unfold tk_rg
  split at h
  · next e => rw [e]; exact h
  · next g e => rw [e]; exact tk_rgP_ok (P := fun i => tk_mw TY mods t (g i)) hE hn h
def tk_mwm (TY : tk_TT) (mods : List (Nat × Nat)) (t : Nat) (env : List tk_I) (ix : tk_V) : Bool := match TY.2.2.1 t with
  | none => tk_in mods t 0
  | some g => tk_rgP (fun i => tk_in mods t (g i)) env ix
theorem tk_mwm_ok {env : List tk_I} {vals : List Int} {t i : Nat} {ix : tk_V} (hE : tk_E env vals) (hn : tk_num vals ix = some (i : Int)) (h : tk_mwm TY mods t env ix = true) : tk_in mods t (tk_rg TY t i) = true := by
  unfold tk_mwm at h
  unfold tk_rg
  split at h
  · next e => rw [e]; exact h
  · next g e => rw [e]; exact tk_rgP_ok (P := fun i => tk_in mods t (g i)) hE hn h
/-- a place may be written: no step's business but the guard's, or what X doesn't speak of -/
def tk_wok (TY : tk_TT) (mods : List (Nat × Nat)) (st : tk_S) (t r : Nat) (ix v : tk_V) : Bool := tk_mwx TY mods t st.2.2.1.1 ix || (tk_mwm TY mods t st.2.2.1.1 ix && TY.2.2.2.2 st t r ix v)
theorem tk_ux_w (hXs : tk_xs TY X ads tw) {ws : va_W} {st : tk_S} {t r i x j : Nat} {ix v : tk_V} {e e' : va_E} {u : Value} {vals : List Int} {rads : List Nat} (hu : tk_ux TY X mods tw ws0 ws) (hH : tk_H st.2.2.1 vals) (h3 : rk_A2 (fun t y => tk_ty ads tw t y) st.2.2.2.1 rads) (h9 : ∀ z ∈ st.2.2.2.2, tk_fk vals rads ws z) (h7 : va_D Ad ws) (h4 : ws.map Prod.fst = ads) (hax : rads[r]? = some x) (hn : tk_num vals ix = some (i : Int)) (hw : ws[j]? = some (x, e)) (hj : tw[j]? = some t) (hg : tk_g vals rads v u) (hps : tk_pos e' i = some u) (hpd : ∀ i', ¬ i' = i → tk_pos e' i' = tk_pos e i') (h : tk_wok TY mods st t r ix v = true) : tk_ux TY X mods tw ws0 (ws.set j (x, e')) := by
  unfold tk_wok at h
  rw [Bool.or_eq_true, Bool.and_eq_true] at h
  rcases h with h | ⟨h1, h2⟩
  · exact tk_ux_set hXs hu hw hj (tk_mwx_ok hH.1 hn h) (fun i' hi => hpd i' (fun z => hi (by rw [z]))) ⟨i, rfl⟩
  · have hm := tk_in_ok.mp (tk_mwm_ok hH.1 hn h1)
    refine ⟨tk_un_tr hu.1 (tk_un_set (mods := [(t, tk_rg TY t i)]) hw hj (fun i' hi => hpd i' (fun z => hi (by rw [z]; exact List.mem_singleton.mpr rfl))) ⟨i, List.mem_singleton.mpr rfl⟩) (fun z hz => by rw [List.mem_singleton.mp hz]; exact hm), hXs.2 st t r i x j ix v e e' u vals rads ws Ad h2 hH h3 h9 h7 h4 hax hn hw hj hg hps hpd hu.2⟩
def tk_fitx (TY : tk_TT) (env : List tk_I) (f : tk_F) (ix v : tk_V) : Bool := cond (Nat.beq f.1 3) (v.1 == 0 && (match tk_iv env v with
  | some I => tk_rgP (fun i => decide ((TY.2.1 f.2.1.toNat i).1 ≤ I.1) && decide (I.2 ≤ (TY.2.1 f.2.1.toNat i).2)) env ix
  | none => false)) (tk_fits env f v)
theorem tk_fitx_ok {env : List tk_I} {f : tk_F} {ix v : tk_V} {vals : List Int} {rads : List Nat} {u : Value} (t : Nat) {i : Nat} (hE : tk_E env vals) (hn : tk_num vals ix = some (i : Int)) (hg : tk_g vals rads v u) (h : tk_fitx TY env f ix v = true) : tk_fv ro TY.2.1 ads tw t i f u := by
  unfold tk_fitx at h
  cases hb : Nat.beq f.1 3 with
  | false => rw [hb] at h; exact (tk_fits_ok t i hE hg h).1
  | true =>
    rw [hb] at h
    have e := Nat.eq_of_beq_eq_true hb
    have h : (v.1 == 0 && (match tk_iv env v with
      | some I => tk_rgP (fun i => decide ((TY.2.1 f.2.1.toNat i).1 ≤ I.1) && decide (I.2 ≤ (TY.2.1 f.2.1.toNat i).2)) env ix
      | none => false)) = true := h
    rw [Bool.and_eq_true, beq_iff_eq] at h
    obtain ⟨x, rfl, hx⟩ := tk_g0 hg h.1
    have h2 := h.2
    split at h2
    · next I hI =>
      have b := tk_iv_ok hE hx hI
      have hp := tk_rgP_ok (P := fun i => decide ((TY.2.1 f.2.1.toNat i).1 ≤ I.1) && decide (I.2 ≤ (TY.2.1 f.2.1.toNat i).2)) hE hn h2
      rw [Bool.and_eq_true, decide_eq_true_eq, decide_eq_true_eq] at hp
      unfold tk_fv
      rw [e]
      exact ⟨x, rfl, by omega, by omega⟩
    · cases h2
/-- a value that was read of a like place of a like cell: its bounds go with its place -/
def tk_fcp (TY : tk_TT) (env : List tk_I) (rf : List Nat) (fa : tk_FA) (t : Nat) (f : tk_F) (ix v : tk_V) : Bool := Nat.beq f.1 3 && (v.1 == 0 && fa.any (fun z => (match rf[z.1]? with
  | some t2 => Nat.beq t2 t
  | none => false) && (z.2.2.1 == 0 && (tk_kq z.2.2 v && (Nat.beq z.2.1.2.1 ix.2.1 && (Nat.beq z.2.1.2.2.1 ix.2.2.1 && tk_rgP (fun i => decide ((TY.2.1 f.2.1.toNat i).1 ≤ (TY.2.1 f.2.1.toNat ((i : Int) + (z.2.1.2.2.2 - ix.2.2.2)).toNat).1) && decide ((TY.2.1 f.2.1.toNat ((i : Int) + (z.2.1.2.2.2 - ix.2.2.2)).toNat).2 ≤ (TY.2.1 f.2.1.toNat i).2)) env ix))))))
theorem tk_fcp_ok {w : tk_W} {rf : List Nat} {fa : tk_FA} {n : Nat} {f : tk_F} {ix v : tk_V} {vals : List Int} {rads : List Nat} {y : Int32} {ws : va_W} {t i : Nat} (hT : TY.1[t]? = some (.inr (.int, n, f))) (hE : tk_E w.1 vals) (hn : tk_num vals ix = some (i : Int)) (hy : tk_num vals v = some y.toInt) (h3 : rk_A2 (fun t y => tk_ty ads tw t y) rf rads) (h4 : ws.map Prod.fst = ads) (h5 : rk_A2 (fun t (q : Nat × va_E) => tk_cl TY ro ads tw s t q.2) tw ws) (h7 : va_D Ad ws) (h9 : ∀ z ∈ fa, tk_fk vals rads ws z) (h : tk_fcp TY w.1 rf fa t f ix v = true) : tk_fv ro TY.2.1 ads tw t i f (.int y) := by
  unfold tk_fcp at h
  rw [Bool.and_eq_true, Bool.and_eq_true, List.any_eq_true] at h
  obtain ⟨hb, hv, z, hz, h⟩ := h
  rw [Bool.and_eq_true, Bool.and_eq_true, Bool.and_eq_true, Bool.and_eq_true, Bool.and_eq_true, beq_iff_eq] at h
  obtain ⟨a1, a2, a3, a4, a5, a6⟩ := h
  have e := Nat.eq_of_beq_eq_true hb
  obtain ⟨x, j, ik, e0, u, g1, g2, g3, g4, g5⟩ := h9 z hz
  obtain ⟨t2, ht2, hty⟩ := h3.getR g1
  rw [ht2] at a1
  have a1 := Nat.eq_of_beq_eq_true a1
  subst a1
  obtain ⟨j1, e1, hw, hj, hc1⟩ := tk_cell h4 h5 hty
  have := h7.1 j j1 _ _ g3 hw rfl
  subst this
  rw [hw] at g3
  cases g3
  unfold tk_cl at hc1
  rw [hT] at hc1
  obtain ⟨cA, -, -, g, rfl, hf⟩ := hc1
  have hlt : ik < n ∧ u = .int (g ik) := by
    have q : (if ik < n then some (Value.int (g ik)) else none) = some u := g4
    split at q
    · next c => cases q; exact ⟨c, rfl⟩
    · cases q
  obtain ⟨hlt, rfl⟩ := hlt
  obtain ⟨x2, hx2, hx3⟩ := tk_g0 g5 a2
  cases hx2
  rw [tk_kq_ok a3 vals, hy] at hx3
  have hxy : y = g ik := Int32.toInt_inj.mp (Option.some.inj hx3)
  have hq := hf ik hlt
  unfold tk_fv at hq ⊢
  rw [e] at hq ⊢
  obtain ⟨x4, hx4, b1, b2⟩ := hq
  cases hx4
  have hik : (ik : Int) = (i : Int) + (z.2.1.2.2.2 - ix.2.2.2) := by
    have c1 := Nat.eq_of_beq_eq_true a4
    have c2 := Nat.eq_of_beq_eq_true a5
    unfold tk_num at g2 hn
    rw [c1, c2] at g2
    split at hn
    · next c3 =>
      rw [c3] at g2
      have g2 : z.2.1.2.2.2 = (ik : Int) := Option.some.inj g2
      have hn : ix.2.2.2 = (i : Int) := Option.some.inj hn
      omega
    · next k c3 =>
      rw [c3] at g2
      dsimp only at g2
      cases hk : vals[k]? with
      | none => rw [hk] at hn; cases hn
      | some m =>
        rw [hk] at hn g2
        have g2 : (ix.2.2.1 : Int) * m + z.2.1.2.2.2 = (ik : Int) := Option.some.inj g2
        have hn : (ix.2.2.1 : Int) * m + ix.2.2.2 = (i : Int) := Option.some.inj hn
        omega
  have hp := tk_rgP_ok hE hn a6
  rw [← hik, Bool.and_eq_true, decide_eq_true_eq, decide_eq_true_eq] at hp
  rw [Int.toNat_natCast] at hp
  exact ⟨y, rfl, by rw [hxy]; exact Int.le_trans hp.1 b1, by rw [hxy]; exact Int.le_trans b2 hp.2⟩
def tk_f_sa0 (mods : List (Nat × Nat)) (TY : tk_TT) (pc : Nat) : tk_Fn := fun st => match st.2.1 with
  | v :: ix :: a :: r => if a.1 = 2 ∧ ix.1 = 0 ∧ v.1 = 0 then (match st.2.2.2.1[a.2.1]? with
    | some t => (match TY.1[t]? with
      | some (.inr (.int, n, f)) => if tk_ix st.2.2.1.1 ix n = true ∧ (tk_fitx TY st.2.2.1.1 f ix v || tk_fcp TY st.2.2.1.1 st.2.2.2.1 st.2.2.2.2 t f ix v) = true ∧ tk_wok TY mods st t a.2.1 ix v = true then some [(pc, (st.1, r, st.2.2.1, st.2.2.2.1, cond (Nat.beq f.1 3) ((a.2.1, ix, v) :: st.2.2.2.2.filter (tk_kp st.2.2.1 st.2.2.2.1 t ix)) (st.2.2.2.2.filter (tk_kp st.2.2.1 st.2.2.2.1 t ix))))] else none
      | _ => none)
    | none => none) else none
  | _ => none
set_option maxHeartbeats 2000000 in
theorem tk_sa0_ok (hx : p.tables.exec = Jvm.exec) (hb : c.code = cc) (hF : rk_Fr s m args meth D cl Ad tbl xw fty cln own lk cs) {pc : Nat} {st : tk_S} {res : List (Nat × tk_S)} (hdg : decode cc pc = .ok (.iastore, 1)) (hXs : tk_xs TY X ads tw) (h : tk_f_sa0 mods TY (pc + 1) st = some res) (kk : ∀ q ∈ res, tk_St (rk_KW p l e R s m args below meth c Q) nL (tk_hr mods ws0 TY ro X ads tw s D cl Ad vals0 rads0) q.1 q.2) : tk_St (rk_KW p l e R s m args below meth c Q) nL (tk_hr mods ws0 TY ro X ads tw s D cl Ad vals0 rads0) pc st := by
  obtain ⟨hts, hxw, hown, hK, hA, hcl, hlk, hini, hac, hcs⟩ := hF
  obtain ⟨lo, sk, w, rf, fa⟩ := st
  intro vals rads H locs ls stk lc hH hR hl hL hS
  dsimp only at hH hR hL hS
  unfold tk_f_sa0 at h
  split at h
  · next v0 ix a r e1 =>
    dsimp only at e1
    subst e1
    split at h
    · next hk =>
      split at h
      · next t ht =>
        split at h
        · next n f hT =>
          split at h
          · next hix =>
              cases h
              dsimp only at ht
              obtain ⟨vv, kz, rfl, gv, hSz⟩ := hS.cons
              obtain ⟨vi, k0, rfl, gi, hS0⟩ := hSz.cons
              obtain ⟨va, k1, rfl, hg, hS1⟩ := hS0.cons
              obtain ⟨xi, rfl, hxi⟩ := tk_g0 gi hk.2.1
              obtain ⟨x, hax, rfl⟩ := tk_g2 hg hk.1
              obtain ⟨y, rfl, hyn⟩ := tk_g0 gv hk.2.2
              obtain ⟨hv0, hr0, h3, ws, h4, h5, h6, h7, h8, hun, h9⟩ := id hR
              obtain ⟨x', hax', hty⟩ := h3.get ht
              rw [hax] at hax'
              cases hax'
              obtain ⟨j, e1, hw, hj, hc1⟩ := tk_cell h4 h5 hty
              unfold tk_cl at hc1
              rw [hT] at hc1
              obtain ⟨cA, hA1, hA2, g, rfl, hf⟩ := hc1
              obtain ⟨hin, hlt, hti⟩ := tk_ix_ok hH.1 hxi hix.1
              have hnn : tk_num vals ix = some ((xi.toNatClampNeg : Nat) : Int) := by rw [hti]; exact hxi
              have hfv : tk_fv ro TY.2.1 ads tw t xi.toNatClampNeg f (.int y) := (Bool.or_eq_true _ _ ▸ hix.2.1 : _ ∨ _).elim (fun q => tk_fitx_ok (ro := ro) (ads := ads) (tw := tw) t hH.1 hnn gv q) (fun q => tk_fcp_ok hT hH.1 hnn hyn h3 h4 h5 h7 h9 q)
              have hmw := hix.2.2
              refine va_iast hx hb (rk_K1 hK hA1 hA2) h6 h7 h8 j 0 hw rfl hin hdg (fun H1 locs1 hP1 hD1 hS1' => ?_)
              have hpd : ∀ i, ¬ i = xi.toNatClampNeg → tk_pos (.inl (cA, n, .inl (upd g xi.toNatClampNeg y))) i = tk_pos (.inl (cA, n, .inl g)) i := fun i hi => by
                show (if i < n then some (Value.int ((upd g xi.toNatClampNeg y) i)) else none) = (if i < n then some (Value.int (g i)) else none)
                rw [pk_un hi]
              have hps : tk_pos (.inl (cA, n, .inl (upd g xi.toNatClampNeg y))) xi.toNatClampNeg = some (Value.int y) := by
                show (if xi.toNatClampNeg < n then some (Value.int ((upd g xi.toNatClampNeg y) xi.toNatClampNeg)) else none) = _
                rw [if_pos hlt, pk_us]
              have hold : ∀ z ∈ fa.filter (tk_kp w rf t ix), tk_fk vals rads (ws.set j (x, .inl (cA, n, .inl (upd g xi.toNatClampNeg y)))) z := fun z hz => by
                obtain ⟨z1, z2⟩ := List.mem_filter.mp hz
                exact tk_fk_set hH h3 h4 h7 hw hj hnn hpd z2 (h9 z z1)
              refine kk _ (List.mem_singleton.mpr rfl) vals rads H1 locs1 ls _ lc hH ⟨hv0, hr0, h3, _, by rw [rk_map_set hw]; exact h4, tk_A2_setR ?_ h5 hj, hP1, hD1, hS1', tk_ux_w hXs hun hH h3 h9 h7 h4 hax hnn hw hj gv hps hpd hmw, (by
                cases hb3 : Nat.beq f.1 3 with
                | true =>
                  intro z hz
                  rcases List.mem_cons.mp hz with rfl | hz
                  · exact ⟨x, j, xi.toNatClampNeg, _, _, hax, hnn, List.getElem?_set_self (List.getElem?_eq_some_iff.mp hw).1, hps, gv⟩
                  · exact hold z hz
                | false => exact hold)⟩ hl hL hS1
              show tk_cl TY ro ads tw s t _
              unfold tk_cl
              rw [hT]
              refine ⟨cA, hA1, hA2, _, rfl, fun i hi => ?_⟩
              by_cases ei : xi.toNatClampNeg = i
              · subst ei
                rw [pk_us]
                exact hfv
              · rw [pk_un (Ne.symm ei)]
                exact hf i hi
          · cases h
        · cases h
      · cases h
    · cases h
  · cases h
def tk_f_sa1 (mods : List (Nat × Nat)) (TY : tk_TT) (pc : Nat) : tk_Fn := fun st => match st.2.1 with
  | v :: ix :: a :: r => if a.1 = 2 ∧ ix.1 = 0 ∧ v.1 = 0 then (match st.2.2.2.1[a.2.1]? with
    | some t => (match TY.1[t]? with
      | some (.inr (.byte, n, f)) => if tk_ix st.2.2.1.1 ix n = true ∧ tk_fits st.2.2.1.1 f v = true ∧ tk_wok TY mods st t a.2.1 ix v = true ∧ -128 ≤ f.2.1 ∧ f.2.2 ≤ 127 then some [(pc, (st.1, r, st.2.2.1, st.2.2.2.1, (st.2.2.2.2.filter (tk_kp st.2.2.1 st.2.2.2.1 t ix))))] else none
      | _ => none)
    | none => none) else none
  | _ => none
set_option maxHeartbeats 2000000 in
theorem tk_sa1_ok (hx : p.tables.exec = Jvm.exec) (hb : c.code = cc) (hF : rk_Fr s m args meth D cl Ad tbl xw fty cln own lk cs) {pc : Nat} {st : tk_S} {res : List (Nat × tk_S)} (hdg : decode cc pc = .ok (.bastore, 1)) (hXs : tk_xs TY X ads tw) (h : tk_f_sa1 mods TY (pc + 1) st = some res) (kk : ∀ q ∈ res, tk_St (rk_KW p l e R s m args below meth c Q) nL (tk_hr mods ws0 TY ro X ads tw s D cl Ad vals0 rads0) q.1 q.2) : tk_St (rk_KW p l e R s m args below meth c Q) nL (tk_hr mods ws0 TY ro X ads tw s D cl Ad vals0 rads0) pc st := by
  obtain ⟨hts, hxw, hown, hK, hA, hcl, hlk, hini, hac, hcs⟩ := hF
  obtain ⟨lo, sk, w, rf, fa⟩ := st
  intro vals rads H locs ls stk lc hH hR hl hL hS
  dsimp only at hH hR hL hS
  unfold tk_f_sa1 at h
  split at h
  · next v0 ix a r e1 =>
    dsimp only at e1
    subst e1
    split at h
    · next hk =>
      split at h
      · next t ht =>
        split at h
        · next n f hT =>
          split at h
          · next hix =>
              cases h
              dsimp only at ht
              obtain ⟨vv, kz, rfl, gv, hSz⟩ := hS.cons
              obtain ⟨vi, k0, rfl, gi, hS0⟩ := hSz.cons
              obtain ⟨va, k1, rfl, hg, hS1⟩ := hS0.cons
              obtain ⟨xi, rfl, hxi⟩ := tk_g0 gi hk.2.1
              obtain ⟨x, hax, rfl⟩ := tk_g2 hg hk.1
              obtain ⟨y, rfl, hyn⟩ := tk_g0 gv hk.2.2
              obtain ⟨hv0, hr0, h3, ws, h4, h5, h6, h7, h8, hun, h9⟩ := id hR
              obtain ⟨x', hax', hty⟩ := h3.get ht
              rw [hax] at hax'
              cases hax'
              obtain ⟨j, e1, hw, hj, hc1⟩ := tk_cell h4 h5 hty
              unfold tk_cl at hc1
              rw [hT] at hc1
              obtain ⟨cA, hA1, hA2, g, rfl, hf⟩ := hc1
              obtain ⟨hin, hlt, hti⟩ := tk_ix_ok hH.1 hxi hix.1
              have hnn : tk_num vals ix = some ((xi.toNatClampNeg : Nat) : Int) := by rw [hti]; exact hxi
              have hfv := (tk_fits_ok (ro := ro) (reg := TY.2.1) (ads := ads) (tw := tw) t xi.toNatClampNeg hH.1 gv hix.2.1).1
              have hmw := hix.2.2.1
              have hy : vp_nar .byte y = y := by
                rw [vp_nar_byte]
                apply Int32.toInt_inj.mp
                rw [Int8.toInt_toInt32, Int32.toInt_toInt8]
                have hb1 : f.2.1 ≤ y.toInt ∧ y.toInt ≤ f.2.2 := by
                  have hbf := hix.2.1
                  unfold tk_fits at hbf
                  split at hbf
                  · rw [Bool.and_eq_true] at hbf
                    have hbf := hbf.2
                    split at hbf
                    · next I hI =>
                      have b := tk_iv_ok hH.1 hyn hI
                      rw [Bool.and_eq_true, decide_eq_true_eq, decide_eq_true_eq] at hbf
                      omega
                    · cases hbf
                  · rw [Bool.and_eq_true, beq_iff_eq] at hbf
                    exact absurd (hk.2.2.symm.trans hbf.1) (by decide)
                  · rw [Bool.and_eq_true, beq_iff_eq] at hbf
                    exact absurd (hk.2.2.symm.trans hbf.1) (by decide)
                  · cases hbf
                have hb9 := hix.2.2.2
                exact Int.bmod_eq_of_le (by omega) (by omega)
              refine va_bast hx hb (rk_K1 hK hA1 hA2) h6 h7 h8 j 0 hw rfl hin hdg (fun H1 locs1 hP1 hD1 hS1' => ?_)
              rw [hy] at hP1 hD1
              have hpd : ∀ i, ¬ i = xi.toNatClampNeg → tk_pos (.inl (cA, n, .inl (upd g xi.toNatClampNeg y))) i = tk_pos (.inl (cA, n, .inl g)) i := fun i hi => by
                show (if i < n then some (Value.int ((upd g xi.toNatClampNeg y) i)) else none) = (if i < n then some (Value.int (g i)) else none)
                rw [pk_un hi]
              have hps : tk_pos (.inl (cA, n, .inl (upd g xi.toNatClampNeg y))) xi.toNatClampNeg = some (Value.int y) := by
                show (if xi.toNatClampNeg < n then some (Value.int ((upd g xi.toNatClampNeg y) xi.toNatClampNeg)) else none) = _
                rw [if_pos hlt, pk_us]
              have hold : ∀ z ∈ fa.filter (tk_kp w rf t ix), tk_fk vals rads (ws.set j (x, .inl (cA, n, .inl (upd g xi.toNatClampNeg y)))) z := fun z hz => by
                obtain ⟨z1, z2⟩ := List.mem_filter.mp hz
                exact tk_fk_set hH h3 h4 h7 hw hj hnn hpd z2 (h9 z z1)
              refine kk _ (List.mem_singleton.mpr rfl) vals rads H1 locs1 ls _ lc hH ⟨hv0, hr0, h3, _, by rw [rk_map_set hw]; exact h4, tk_A2_setR ?_ h5 hj, hP1, hD1, hS1', tk_ux_w hXs hun hH h3 h9 h7 h4 hax hnn hw hj gv hps hpd hmw, hold⟩ hl hL hS1
              show tk_cl TY ro ads tw s t _
              unfold tk_cl
              rw [hT]
              refine ⟨cA, hA1, hA2, _, rfl, fun i hi => ?_⟩
              by_cases ei : xi.toNatClampNeg = i
              · subst ei
                rw [pk_us]
                exact hfv
              · rw [pk_un (Ne.symm ei)]
                exact hf i hi
          · cases h
        · cases h
      · cases h
    · cases h
  · cases h
def tk_f_sa2 (mods : List (Nat × Nat)) (TY : tk_TT) (pc : Nat) : tk_Fn := fun st => match st.2.1 with
  | v :: ix :: a :: r => if a.1 = 2 ∧ ix.1 = 0 ∧ v.1 = 1 then (match st.2.2.2.1[a.2.1]? with
    | some t => (match TY.1[t]? with
      | some (.inr (.long, n, f)) => if tk_ix st.2.2.1.1 ix n = true ∧ tk_fits st.2.2.1.1 f v = true ∧ tk_wok TY mods st t a.2.1 ix v = true then some [(pc, (st.1, r, st.2.2.1, st.2.2.2.1, cond (Nat.beq f.1 6) ((a.2.1, ix, v) :: st.2.2.2.2.filter (tk_kp st.2.2.1 st.2.2.2.1 t ix)) (st.2.2.2.2.filter (tk_kp st.2.2.1 st.2.2.2.1 t ix))))] else none
      | _ => none)
    | none => none) else none
  | _ => none
set_option maxHeartbeats 2000000 in
theorem tk_sa2_ok (hx : p.tables.exec = Jvm.exec) (hb : c.code = cc) (hF : rk_Fr s m args meth D cl Ad tbl xw fty cln own lk cs) {pc : Nat} {st : tk_S} {res : List (Nat × tk_S)} (hdg : decode cc pc = .ok (.lastore, 1)) (hXs : tk_xs TY X ads tw) (h : tk_f_sa2 mods TY (pc + 1) st = some res) (kk : ∀ q ∈ res, tk_St (rk_KW p l e R s m args below meth c Q) nL (tk_hr mods ws0 TY ro X ads tw s D cl Ad vals0 rads0) q.1 q.2) : tk_St (rk_KW p l e R s m args below meth c Q) nL (tk_hr mods ws0 TY ro X ads tw s D cl Ad vals0 rads0) pc st := by
  obtain ⟨hts, hxw, hown, hK, hA, hcl, hlk, hini, hac, hcs⟩ := hF
  obtain ⟨lo, sk, w, rf, fa⟩ := st
  intro vals rads H locs ls stk lc hH hR hl hL hS
  dsimp only at hH hR hL hS
  unfold tk_f_sa2 at h
  split at h
  · next v0 ix a r e1 =>
    dsimp only at e1
    subst e1
    split at h
    · next hk =>
      split at h
      · next t ht =>
        split at h
        · next n f hT =>
          split at h
          · next hix =>
              cases h
              dsimp only at ht
              obtain ⟨vv, kz, rfl, gv, hSz⟩ := hS.cons
              obtain ⟨vi, k0, rfl, gi, hS0⟩ := hSz.cons
              obtain ⟨va, k1, rfl, hg, hS1⟩ := hS0.cons
              obtain ⟨xi, rfl, hxi⟩ := tk_g0 gi hk.2.1
              obtain ⟨x, hax, rfl⟩ := tk_g2 hg hk.1
              obtain ⟨y, rfl, hyn⟩ := tk_g1 gv hk.2.2
              obtain ⟨hv0, hr0, h3, ws, h4, h5, h6, h7, h8, hun, h9⟩ := id hR
              obtain ⟨x', hax', hty⟩ := h3.get ht
              rw [hax] at hax'
              cases hax'
              obtain ⟨j, e1, hw, hj, hc1⟩ := tk_cell h4 h5 hty
              unfold tk_cl at hc1
              rw [hT] at hc1
              obtain ⟨cA, hA1, hA2, g, rfl, hf⟩ := hc1
              obtain ⟨hin, hlt, hti⟩ := tk_ix_ok hH.1 hxi hix.1
              have hnn : tk_num vals ix = some ((xi.toNatClampNeg : Nat) : Int) := by rw [hti]; exact hxi
              have hfv := (tk_fits_ok (ro := ro) (reg := TY.2.1) (ads := ads) (tw := tw) t xi.toNatClampNeg hH.1 gv hix.2.1).1
              have hmw := hix.2.2
              refine va_last hx hb (rk_K1 hK hA1 hA2) h6 h7 h8 j 0 hw rfl hin hdg (fun H1 locs1 hP1 hD1 hS1' => ?_)
              have hpd : ∀ i, ¬ i = xi.toNatClampNeg → tk_pos (.inl (cA, n, (Sum.inr ∘ Sum.inl) (vp_updL g xi.toNatClampNeg y))) i = tk_pos (.inl (cA, n, (Sum.inr ∘ Sum.inl) g)) i := fun i hi => by
                show (if i < n then some (Value.long ((vp_updL g xi.toNatClampNeg y) i)) else none) = (if i < n then some (Value.long (g i)) else none)
                rw [pk_uLn hi]
              have hps : tk_pos (.inl (cA, n, (Sum.inr ∘ Sum.inl) (vp_updL g xi.toNatClampNeg y))) xi.toNatClampNeg = some (Value.long y) := by
                show (if xi.toNatClampNeg < n then some (Value.long ((vp_updL g xi.toNatClampNeg y) xi.toNatClampNeg)) else none) = _
                rw [if_pos hlt, pk_uLs]
              have hold : ∀ z ∈ fa.filter (tk_kp w rf t ix), tk_fk vals rads (ws.set j (x, .inl (cA, n, (Sum.inr ∘ Sum.inl) (vp_updL g xi.toNatClampNeg y)))) z := fun z hz => by
                obtain ⟨z1, z2⟩ := List.mem_filter.mp hz
                exact tk_fk_set hH h3 h4 h7 hw hj hnn hpd z2 (h9 z z1)
              refine kk _ (List.mem_singleton.mpr rfl) vals rads H1 locs1 ls _ lc hH ⟨hv0, hr0, h3, _, by rw [rk_map_set hw]; exact h4, tk_A2_setR ?_ h5 hj, hP1, hD1, hS1', tk_ux_w hXs hun hH h3 h9 h7 h4 hax hnn hw hj gv hps hpd hmw, (by
                cases hb3 : Nat.beq f.1 6 with
                | true =>
                  intro z hz
                  rcases List.mem_cons.mp hz with rfl | hz
                  · exact ⟨x, j, xi.toNatClampNeg, _, _, hax, hnn, List.getElem?_set_self (List.getElem?_eq_some_iff.mp hw).1, hps, gv⟩
                  · exact hold z hz
                | false => exact hold)⟩ hl hL hS1
              show tk_cl TY ro ads tw s t _
              unfold tk_cl
              rw [hT]
              refine ⟨cA, hA1, hA2, _, rfl, fun i hi => ?_⟩
              by_cases ei : xi.toNatClampNeg = i
              · subst ei
                rw [pk_uLs]
                exact hfv
              · rw [pk_uLn (Ne.symm ei)]
                exact hf i hi
          · cases h
        · cases h
      · cases h
    · cases h
  · cases h
end TKJ
end MH27_0
section MH27_1
/-! ===== tk: putfield ===== -/
def tk_bt (env : List tk_I) (ty : FieldType) (v : tk_V) : Bool := match ty with
  | .int => v.1 == 0
  | .long => v.1 == 1
  | .boolean => v.1 == 0 && (match tk_iv env v with
    | some I => decide (0 ≤ I.1) && decide (I.2 ≤ 1)
    | none => false)
  | _ => false
theorem tk_bt_ok {env : List tk_I} {vals : List Int} {rads : List Nat} {ty : FieldType} {a : tk_V} {v : Value} (hE : tk_E env vals) (h : tk_g vals rads a v) (hf : tk_bt env ty a = true) : narrow ty v = v ∧ fits ty v = true := by
  unfold tk_bt at hf
  split at hf
  · rw [beq_iff_eq] at hf
    obtain ⟨x, rfl, -⟩ := tk_g0 h hf
    exact ⟨rfl, rfl⟩
  · rw [beq_iff_eq] at hf
    obtain ⟨x, rfl, -⟩ := tk_g1 h hf
    exact ⟨rfl, rfl⟩
  · rw [Bool.and_eq_true, beq_iff_eq] at hf
    obtain ⟨x, rfl, hx⟩ := tk_g0 h hf.1
    have h2 := hf.2
    split at h2
    · next I hI =>
      have b := tk_iv_ok hE hx hI
      rw [Bool.and_eq_true, decide_eq_true_eq, decide_eq_true_eq] at h2
      have hx : x.toInt = 0 ∨ x.toInt = 1 := by omega
      rcases hx with h0 | h0
      · have : x = 0 := Int32.toInt_inj.mp h0
        subst this
        exact ⟨rfl, rfl⟩
      · have : x = 1 := Int32.toInt_inj.mp h0
        subst this
        exact ⟨rfl, rfl⟩
    · cases h2
  · cases hf
def tk_f_put (mods : List (Nat × Nat)) (TY : tk_TT) (fty : rk_F) (pc kd ci k : Nat) : tk_Fn := fun st => match st.2.1 with
  | v :: a :: r => if a.1 = 2 ∧ kd ≤ 1 then (match st.2.2.2.1[a.2.1]? with
    | some t => (match TY.1[t]? with
      | some (.inl o) => if ci = o.1 then (match o.2[k]?, (fty[ci]?).bind (fun z => z[k]?) with
        | some f, some ft => if tk_fits st.2.2.1.1 f v = true ∧ tk_bt st.2.2.1.1 ft.1 v = true ∧ ft.2 = false ∧ tk_wok TY mods st t a.2.1 (tk_ky k) v = true then some [(pc, (st.1, r, st.2.2.1, st.2.2.2.1, (a.2.1, tk_ky k, v) :: st.2.2.2.2.filter (tk_kp st.2.2.1 st.2.2.2.1 t (tk_ky k))))] else none
        | _, _ => none) else none
      | _ => none)
    | none => none) else none
  | _ => none
section TKU
variable {p : Program} {l : Launch} {e : Env} {R : Room} {s : State} {m : MethodId} {args : Array Value} {below : List Frame} {meth : Method} {c : Code} {Q : State → Prop} {cc : ByteArray} {D : va_G} {cl : List vw_C} {Ad : Nat → Prop} {nL : Nat} {vals0 : List Int} {rads0 : List Nat}
variable {mods : List (Nat × Nat)} {ws0 : va_W} {tbl xw : List Jvm.Cond} {fty : rk_F} {cln : List String} {own : String} {lk : List (Nat × Nat × Nat × Nat)} {cs : List (Nat × Value)} {TY : tk_TT} {ro : Nat → Nat → Int → Prop} {X : va_W → Prop} {ads tw : List Nat}
set_option maxHeartbeats 4000000 in
theorem tk_put_ok (hx : p.tables.exec = Jvm.exec) (hb : c.code = cc) (hF : rk_Fr s m args meth D cl Ad tbl xw fty cln own lk cs) {pc idx kd ci k : Nat} {st : tk_S} {res : List (Nat × tk_S)} (hlk1 : rk_lk lk idx = some (kd, ci, k)) (hdg : decode cc pc = .ok (.putfield idx, 3)) (hXs : tk_xs TY X ads tw) (h : tk_f_put mods TY fty (pc + 3) kd ci k st = some res) (kk : ∀ q ∈ res, tk_St (rk_KW p l e R s m args below meth c Q) nL (tk_hr mods ws0 TY ro X ads tw s D cl Ad vals0 rads0) q.1 q.2) : tk_St (rk_KW p l e R s m args below meth c Q) nL (tk_hr mods ws0 TY ro X ads tw s D cl Ad vals0 rads0) pc st := by
  obtain ⟨hts, hxw, hown, hK, hA, hcl, hlk, hini, hac, hcs⟩ := hF
  obtain ⟨lo, sk, w, rf, fa⟩ := st
  intro vals rads H locs ls stk lc hH hR hl hL hS
  dsimp only at hH hR hL hS
  unfold tk_f_put at h
  split at h
  · next v0 a r e1 =>
    dsimp only at e1
    subst e1
    split at h
    · next hk =>
      split at h
      · next t ht =>
        split at h
        · next o hT =>
          split at h
          · next hci =>
            split at h
            · next f ft hf hft =>
              split at h
              · next hfit =>
                cases h
                dsimp only at ht
                obtain ⟨u, k0, rfl, gu, hS0⟩ := hS.cons
                obtain ⟨va, k1, rfl, hg, hS1⟩ := hS0.cons
                obtain ⟨x, hax, rfl⟩ := tk_g2 hg hk.1
                obtain ⟨hv0, hr0, h3, ws, h4, h5, h6, h7, h8, hun, h9⟩ := id hR
                obtain ⟨x', hax', hty⟩ := h3.get ht
                rw [hax] at hax'
                cases hax'
                obtain ⟨j, e1, hw, hj, hc1⟩ := tk_cell h4 h5 hty
                unfold tk_cl at hc1
                rw [hT] at hc1
                obtain ⟨vs, rfl, hvl, hvs⟩ := hc1
                have hkl : k < vs.length := by rw [hvl]; exact (List.getElem?_eq_some_iff.mp hf).1
                have hfv := tk_fits_ok (ro := ro) (reg := TY.2.1) (ads := ads) (tw := tw) t k hH.1 gu hfit.1
                obtain ⟨hn, hfi⟩ := tk_bt_ok hH.1 gu hfit.2.1
                have hpd : ∀ i, ¬ i = k → tk_pos (.inr (o.1, vs.set k u)) i = tk_pos (.inr (o.1, vs)) i := fun i hi => List.getElem?_set_ne (Ne.symm hi)
                have hlt : j < ws.length := (List.getElem?_eq_some_iff.mp hw).1
                have fin : ∀ (H1 : Heap) (locs1 : List Loc), va_P D cl (ws.set j (x, .inr (o.1, vs.set k u))) H1 → va_D Ad (ws.set j (x, .inr (o.1, vs.set k u))) → va_S Ad s.heap H1 locs1 → rk_KW p l e R s m args below meth c Q (pc + 3) ls k1 H1 locs1 0 0 := fun H1 locs1 hP1 hD1 hS1' => by
                  refine kk _ (List.mem_singleton.mpr rfl) vals rads H1 locs1 ls _ lc hH ⟨hv0, hr0, h3, _, by rw [rk_map_set hw]; exact h4, tk_A2_setR ?_ h5 hj, hP1, hD1, hS1', tk_ux_w hXs hun hH h3 h9 h7 h4 hax (ix := tk_ky k) (i := k) rfl hw hj gu (List.getElem?_set_self hkl) hpd hfit.2.2.2, fun z hz => ?_⟩ hl hL hS1
                  · show tk_cl TY ro ads tw s t _
                    unfold tk_cl
                    rw [hT]
                    refine ⟨_, rfl, by rw [List.length_set]; exact hvl, fun i f2 v2 hf2 hv2 => ?_⟩
                    by_cases ei : k = i
                    · subst ei
                      rw [List.getElem?_set_self hkl] at hv2
                      cases hv2
                      rw [hf] at hf2
                      cases hf2
                      exact hfv.1
                    · rw [List.getElem?_set_ne ei] at hv2
                      exact hvs i f2 v2 hf2 hv2
                  · rcases List.mem_cons.mp hz with rfl | hz
                    · exact ⟨x, j, k, _, u, hax, rfl, List.getElem?_set_self hlt, List.getElem?_set_self hkl, gu⟩
                    · obtain ⟨z1, z2⟩ := List.mem_filter.mp hz
                      exact tk_fk_set hH h3 h4 h7 hw hj (ix := tk_ky k) rfl hpd z2 (h9 z z1)
                subst hci
                have hr := hlk _ (rk_lk_mem hlk1)
                obtain ⟨tf, htf, htk⟩ := Option.bind_eq_some_iff.mp hft
                rcases (show kd = 0 ∨ kd = 1 by omega) with rfl | rfl
                · obtain ⟨q, hq, hkN, hm⟩ := hr
                  obtain ⟨c1, c2, -, tf', htf', hlenT, hT2⟩ := hcl _ _ hq
                  cases htf.symm.trans htf'
                  obtain ⟨t1, t2⟩ := hT2 k ft htk
                  exact va_put (C := q.1) (T := q.2.1) (N := q.2.2) hx hb hts c1 _ (rk_ty hlenT hT2) c2 hown hK h6 h7 h8 j hw hq k hkN (hts _ hm) (fun _ h9 => h9) (t2.trans hfit.2.2.1) t1 hn hfi hkl hdg fin
                · obtain ⟨q, host, hq, hkN, hm⟩ := hr
                  obtain ⟨c1, c2, -, tf', htf', hlenT, hT2⟩ := hcl _ _ hq
                  cases htf.symm.trans htf'
                  obtain ⟨t1, t2⟩ := hT2 k ft htk
                  exact va_putN (C := q.1) (T := q.2.1) (N := q.2.2) hx hb hts c1 _ (rk_ty hlenT hT2) c2 hown hK h6 h7 h8 j hw hq k hkN (va_Nw.use rfl (hxw _ hm)) (fun _ h9 => h9) (t2.trans hfit.2.2.1) t1 hn hfi hkl hdg fin
              · cases h
            · cases h
          · cases h
        · cases h
      · cases h
    · cases h
  · cases h
end TKU
end MH27_1
section MH27_2
/-! ===== tk: switches, constants ===== -/
def tk_lk (pc : Nat) (a : tk_V) (mk : Nat → tk_W → Nat × tk_S) (dflt : Int) : List (Int × Int) → List tk_W → Option (List (Nat × tk_S))
  | [], ws => if 0 ≤ (pc : Int) + dflt then some (ws.map (mk ((pc : Int) + dflt).toNat)) else none
  | q :: ps, ws => if 0 ≤ (pc : Int) + q.2 then (match tk_lk pc a mk dflt ps (ws.flatMap (fun w => tk_ne w a (0, 0, 0, q.1))) with
    | some l => some ((ws.flatMap (fun w => tk_eq w a (0, 0, 0, q.1))).map (mk ((pc : Int) + q.2).toNat) ++ l)
    | none => none) else none
theorem tk_lk_ok {pc : Nat} {a : tk_V} {mk : Nat → tk_W → Nat × tk_S} {dflt x : Int} {vals : List Int} (ha : tk_num vals a = some x) : ∀ (ps : List (Int × Int)) {ws : List tk_W} {w : tk_W} {res : List (Nat × tk_S)}, w ∈ ws → tk_H w vals → tk_lk pc a mk dflt ps ws = some res → 0 ≤ (pc : Int) + Op.lookupswitch.offset ps dflt x ∧ ∃ w', tk_H w' vals ∧ mk ((pc : Int) + Op.lookupswitch.offset ps dflt x).toNat w' ∈ res := by
  intro ps
  induction ps with
  | nil =>
    intro ws w res hw hH h
    unfold tk_lk at h
    split at h
    · next hd =>
      cases h
      exact ⟨hd, w, hH, List.mem_map.mpr ⟨w, hw, rfl⟩⟩
    · cases h
  | cons q ps ih =>
    intro ws w res hw hH h
    obtain ⟨v, o⟩ := q
    unfold tk_lk at h
    rw [Op.lookupswitch.offset_cons]
    split at h
    · next hd =>
      split at h
      · next l2 hl2 =>
        cases h
        by_cases e : v = x
        · rw [if_pos e]
          obtain ⟨w', h1, h2⟩ := tk_eq_ok (b := (0, 0, 0, v)) hH ha (show tk_num vals (0, 0, 0, v) = some v from rfl) e.symm
          exact ⟨hd, w', h2, List.mem_append_left _ (List.mem_map.mpr ⟨w', List.mem_flatMap.mpr ⟨w, hw, h1⟩, rfl⟩)⟩
        · rw [if_neg e]
          obtain ⟨w', h1, h2⟩ := tk_ne_ok (b := (0, 0, 0, v)) hH ha (show tk_num vals (0, 0, 0, v) = some v from rfl) (fun z => e z.symm)
          obtain ⟨g1, w2, g2, g3⟩ := ih (List.mem_flatMap.mpr ⟨w, hw, h1⟩) h2 hl2
          exact ⟨g1, w2, g2, List.mem_append_right _ g3⟩
      · cases h
    · cases h
def tk_tp : Int → List Int → List (Int × Int)
  | _, [] => []
  | v, o :: r => (v, o) :: tk_tp (v + 1) r
theorem tk_tp_ok (d x : Int) : ∀ (offs : List Int) (v : Int), ((x < v ∨ v + (offs.length : Int) ≤ x) ∧ Op.lookupswitch.offset (tk_tp v offs) d x = d) ∨ (∃ i : Nat, x = v + (i : Int) ∧ offs[i]? = some (Op.lookupswitch.offset (tk_tp v offs) d x)) := by
  intro offs
  induction offs with
  | nil => intro v; exact Or.inl ⟨by simp; omega, rfl⟩
  | cons o r ih =>
    intro v
    show ((x < v ∨ v + ((o :: r).length : Int) ≤ x) ∧ Op.lookupswitch.offset ((v, o) :: tk_tp (v + 1) r) d x = d) ∨ _
    show ((x < v ∨ v + ((o :: r).length : Int) ≤ x) ∧ Op.lookupswitch.offset ((v, o) :: tk_tp (v + 1) r) d x = d) ∨ (∃ i : Nat, x = v + (i : Int) ∧ (o :: r)[i]? = some (Op.lookupswitch.offset ((v, o) :: tk_tp (v + 1) r) d x))
    rw [Op.lookupswitch.offset_cons]
    by_cases e : v = x
    · rw [if_pos e]
      exact Or.inr ⟨0, by simp; omega, rfl⟩
    · rw [if_neg e]
      rcases ih (v + 1) with ⟨h1, h2⟩ | ⟨i, h1, h2⟩
      · refine Or.inl ⟨?_, h2⟩
        rw [List.length_cons]
        omega
      · exact Or.inr ⟨i + 1, by omega, by simpa using h2⟩
def tk_f_lks (pc : Nat) (dflt : Int) (ps : List (Int × Int)) : tk_Fn := fun st => match st.2.1 with
  | a :: r => if a.1 = 0 ∧ (ps.zip (ps.drop 1)).all (fun z => decide (z.1.1 < z.2.1)) = true then tk_lk pc a (fun n w => (n, (st.1, r, w, st.2.2.2))) dflt ps [st.2.2.1] else none
  | _ => none
def tk_f_tab (pc : Nat) (dflt low high : Int) (offs : List Int) : tk_Fn := fun st => match st.2.1 with
  | a :: r => if a.1 = 0 ∧ (offs.length : Int) = high - low + 1 then tk_lk pc a (fun n w => (n, (st.1, r, w, st.2.2.2))) dflt (tk_tp low offs) [st.2.2.1] else none
  | _ => none
section TKS
variable {p : Program} {l : Launch} {e : Env} {R : Room} {s : State} {m : MethodId} {args : Array Value} {below : List Frame} {meth : Method} {c : Code} {Q : State → Prop} {cc : ByteArray} {nL : Nat} {Hr : tk_Hr}
theorem tk_tab_ok (hx : p.tables.exec = Jvm.exec) (hb : c.code = cc) {pc len : Nat} {dflt low high : Int} {offs : Array Int} {st : tk_S} {res : List (Nat × tk_S)} (hdg : decode cc pc = .ok (.tableswitch dflt low high offs, len)) (h : tk_f_tab pc dflt low high offs.toList st = some res) (kk : ∀ q ∈ res, tk_St (rk_KW p l e R s m args below meth c Q) nL Hr q.1 q.2) : tk_St (rk_KW p l e R s m args below meth c Q) nL Hr pc st := by
  obtain ⟨lo, sk, w, rest⟩ := st
  intro vals rads H locs ls stk lc hH hR hl hL hS
  dsimp only at hH hR hL hS
  unfold tk_f_tab at h
  split at h
  · next a r e1 =>
    dsimp only at e1
    subst e1
    split at h
    · next hk =>
      obtain ⟨va, k1, rfl, ga, hS1⟩ := hS.cons
      obtain ⟨x, rfl, hx1⟩ := tk_g0 ga hk.1
      obtain ⟨g1, w', g2, g3⟩ := tk_lk_ok hx1 (tk_tp low offs.toList) (List.mem_singleton.mpr rfl) hH h
      have fin := kk _ g3 vals rads H locs ls _ lc g2 hR hl hL hS1
      have hlen := hk.2
      rcases tk_tp_ok dflt x.toInt offs.toList low with ⟨h1, h2⟩ | ⟨i, h1, h2⟩
      · rw [h2] at fin g1
        exact lv_tableOut (tgt := ((pc : Int) + dflt).toNat) hx hb hdg (by omega) (by omega) fin
      · have hi : i < offs.toList.length := (List.getElem?_eq_some_iff.mp h2).1
        refine lv_tableIn (off := Op.lookupswitch.offset (tk_tp low offs.toList) dflt x.toInt) (tgt := ((pc : Int) + Op.lookupswitch.offset (tk_tp low offs.toList) dflt x.toInt).toNat) hx hb hdg (by omega) (by omega) ?_ (by omega) fin
        rw [show (x.toInt - low).toNat = i from by omega]
        rw [Array.getElem?_toList] at h2
        exact h2
    · cases h
  · cases h
theorem tk_lks_ok (hx : p.tables.exec = Jvm.exec) (hb : c.code = cc) {pc len : Nat} {dflt : Int} {ps : Array (Int × Int)} {st : tk_S} {res : List (Nat × tk_S)} (hdg : decode cc pc = .ok (.lookupswitch dflt ps, len)) (h : tk_f_lks pc dflt ps.toList st = some res) (kk : ∀ q ∈ res, tk_St (rk_KW p l e R s m args below meth c Q) nL Hr q.1 q.2) : tk_St (rk_KW p l e R s m args below meth c Q) nL Hr pc st := by
  obtain ⟨lo, sk, w, rest⟩ := st
  intro vals rads H locs ls stk lc hH hR hl hL hS
  dsimp only at hH hR hL hS
  unfold tk_f_lks at h
  split at h
  · next a r e1 =>
    dsimp only at e1
    subst e1
    split at h
    · next hk =>
      obtain ⟨va, k1, rfl, ga, hS1⟩ := hS.cons
      obtain ⟨x, rfl, hx1⟩ := tk_g0 ga hk.1
      obtain ⟨g1, w', g2, g3⟩ := tk_lk_ok hx1 ps.toList (List.mem_singleton.mpr rfl) hH h
      have fin := kk _ g3 vals rads H locs ls _ lc g2 hR hl hL hS1
      refine lv_lookup (tgt := ((pc : Int) + Op.lookupswitch.offset ps.toList dflt x.toInt).toNat) hx hb hdg ?_ rfl (by omega) fin
      exact hk.2
    · cases h
  · cases h
end TKS
/-- a constant -/
def tk_f_cst (pc : Nat) (v : Option Value) : tk_Fn := fun st => match v with
  | some (.int x) => some [(pc, (st.1, (0, 0, 0, x.toInt) :: st.2.1, st.2.2))]
  | some (.long x) => some [(pc, (st.1, (1, 0, 0, x.toInt) :: st.2.1, st.2.2))]
  | _ => none
end MH27_2
section MH27_3
/-! ===== tk: calls: what a method takes for granted, and what holds behind it ===== -/
/-- an end: what is returned, what is known, types of the references, facts -/
abbrev tk_X : Type := Option tk_V × tk_W × List Nat × tk_FA
/-- the ends, and what fields may be written: type, field -/
abbrev tk_O : Type := List tk_X × List (Nat × Nat)
abbrev tk_Ca : Type := Nat → List tk_V → tk_W → List Nat → tk_FA → Option tk_O
theorem tk_cl_moved {TY : tk_TT} {ro : Nat → Nat → Int → Prop} {ads tw : List Nat} {u U : State} (hvm : u.vm.Alike U.vm) {t : Nat} {e : va_E} (h : tk_cl TY ro ads tw u t e) : tk_cl TY ro ads tw U t e := by
  unfold tk_cl at h ⊢
  split at h
  · exact h
  · obtain ⟨cA, h1, h2, h3⟩ := h
    exact ⟨cA, arrOfT_moved hvm h1, h2.moved hvm, h3⟩
  · exact h
/-- what else is known of old cells -/
abbrev tk_XT : Type := (Nat → Prop) → State → Heap → Prop
def tk_xtok (xt : tk_XT) : Prop := (∀ (Ad : Nat → Prop) (s U : State) (H : Heap), s.vm = U.vm → xt Ad s H → xt Ad U H) ∧ (∀ (Ad : Nat → Prop) (s U : State) (H : Heap), s.WarmedH U.vm → xt Ad s H → xt Ad U H) ∧ (∀ (Ad B : Nat → Prop) (U : State) (H H1 : Heap), xt Ad U H → (∀ a, a < H.size → ¬ Ad a → H1[a]? = H[a]?) → (∀ q, B q → Ad q) → xt B U H1)
def tk_Pre (D : va_G) (cl : List vw_C) (xw : List Jvm.Cond) (xt : tk_XT) (TY : tk_TT) (ro : Nat → Nat → Int → Prop) (X : va_W → Prop) (ads tw : List Nat) (ws : va_W) (sz : Nat) (av : List Value) : Array Value → State → Prop := fun v U => v = av.toArray ∧ U.heap.size = sz ∧ va_P D cl ws U.heap ∧ va_K D cl [] U ∧ va_D (fun _ => True) ws ∧ rk_A2 (fun t (q : Nat × va_E) => tk_cl TY ro ads tw U t q.2) tw ws ∧ (∀ w ∈ xw, va_Nw w U) ∧ xt (va_A ws sz) U U.heap ∧ X ws
def tk_ret (r : Option tk_V) (vals : List Int) (rads : List Nat) (oc : Outcome) : Prop := match r with
  | none => oc = .returned none
  | some a => ∃ v, tk_g vals rads a v ∧ oc = .returned (some v)
def tk_Post (D : va_G) (cl : List vw_C) (TY : tk_TT) (ro : Nat → Nat → Int → Prop) (X : va_W → Prop) (ads tw : List Nat) (o : tk_O) (vals : List Int) (rads : List Nat) (ws : va_W) (Ad : Nat → Prop) : Array Value → State → Outcome → State → Prop := fun _ st oc t =>
  (∃ x ∈ o.1, ∃ (vals' : List Int) (rads' : List Nat) (ws' : va_W), (∃ k, vals' = vals ++ k) ∧ (∃ k, rads' = rads ++ k) ∧ tk_H x.2.1 vals' ∧ rk_A2 (fun t y => tk_ty ads tw t y) x.2.2.1 rads' ∧ ws'.map Prod.fst = ads ∧ rk_A2 (fun b (q : Nat × va_E) => tk_cl TY ro ads tw t b q.2) tw ws' ∧ va_P D cl ws' t.heap ∧ va_D Ad ws' ∧ (∀ q ∈ x.2.2.2, tk_fk vals' rads' ws' q) ∧ tk_ux TY X o.2 tw ws ws' ∧ tk_ret x.1 vals' rads' oc) ∧ va_F Ad st t
theorem tk_blind {D : va_G} {cl : List vw_C} {xw : List Jvm.Cond} {xt : tk_XT} {TY : tk_TT} {ro : Nat → Nat → Int → Prop} {X : va_W → Prop} {ads tw : List Nat} {ws : va_W} {sz : Nat} {av : List Value} (hxo : rk_xok xw) (hxt : tk_xtok xt) : FrameBlind (tk_Pre D cl xw xt TY ro X ads tw ws sz av) := by
  intro a U g mk q
  obtain ⟨h1, h2, h3, h4, h5, h6, h7, h8, h10⟩ := q
  exact ⟨h1, h2, h3, va_K.moved (u := U) (U := U.calling g mk a) (Vm.Alike.refl U.vm) h4, h5, h6.mono (fun _ _ h => tk_cl_moved (u := U) (U := U.calling g mk a) (Vm.Alike.refl U.vm) h), rk_xw_same hxo (s := U) (U := U.calling g mk a) rfl h7, hxt.1 _ U (U.calling g mk a) _ rfl h8, h10⟩
/-- what a state knows of the heap -/
def tk_hs (TY : tk_TT) (ro : Nat → Nat → Int → Prop) (X : va_W → Prop) (ads tw : List Nat) (s : State) (D : va_G) (cl : List vw_C) (Ad : Nat → Prop) (vals : List Int) (rads : List Nat) (H : Heap) (locs : List Loc) (rf : List Nat) (fa : tk_FA) (ws : va_W) : Prop := rk_A2 (fun t y => tk_ty ads tw t y) rf rads ∧ ws.map Prod.fst = ads ∧ rk_A2 (fun t (q : Nat × va_E) => tk_cl TY ro ads tw s t q.2) tw ws ∧ va_P D cl ws H ∧ va_D Ad ws ∧ va_S Ad s.heap H locs ∧ ∀ q ∈ fa, tk_fk vals rads ws q
section TKB
variable {p : Program} {l : Launch} {e : Env} {R : Room} {s : State} {m : MethodId} {args : Array Value} {below : List Frame} {meth : Method} {c : Code} {Q : State → Prop} {cc : ByteArray} {D : va_G} {cl : List vw_C} {Ad : Nat → Prop} {nL : Nat} {vals0 : List Int} {rads0 : List Nat}
variable {tbl xw : List Jvm.Cond} {xt : tk_XT} {TY : tk_TT} {ro : Nat → Nat → Int → Prop} {X : va_W → Prop} {ads tw : List Nat}
/-- behind a call: for each end of the callee, and any world as it may be there, the caller goes on -/
theorem tk_back {vals : List Int} {rads : List Nat} {ws : va_W} {H : Heap} {locs : List Loc} {ls : Array Slot} {st0 rest : List Value} {rf : List Nat} {fa : tk_FA} {o : tk_O} {pc : Nat} {as : Array Value}
    (hA : ∀ q, s.heap.size ≤ q → Ad q) (hR : tk_hs TY ro X ads tw s D cl Ad vals rads H locs rf fa ws)
    (hr : va_Run p l e R s m args below meth c H locs 0 0 0 0 (F0 m pc ls st0) rest (tk_Post D cl TY ro X ads tw o vals rads ws (va_A ws H.size) as) (va_A ws H.size))
    (kk : ∀ x ∈ o.1, ∀ (vals' : List Int) (rads' : List Nat) (ws' : va_W) (H' : Heap) (locs' : List Loc) (v : Option Value), (∃ k, vals' = vals ++ k) → (∃ k, rads' = rads ++ k) → tk_H x.2.1 vals' → tk_hs TY ro X ads tw s D cl Ad vals' rads' H' locs' x.2.2.1 x.2.2.2 ws' → tk_ux TY X o.2 tw ws ws' → tk_ret x.1 vals' rads' (.returned v) → rk_KW p l e R s m args below meth c Q (pc + 3) ls (v.toList ++ rest) H' locs' 0 0) : rk_KW p l e R s m args below meth c Q pc ls st0 H locs 0 0 := by
  obtain ⟨a1, a2, a3, a4, a5, a6, a7⟩ := hR
  have hsub : ∀ q, va_A ws H.size q → Ad q := by
    rintro q (⟨k, e1, hk⟩ | hq)
    · exact a5.2 k _ hk
    · exact hA q (Nat.le_trans a6.1 hq)
  intro T hT X
  obtain ⟨v, st₀, t, T', L, h0, X', hLf, e1, e2, ⟨⟨x, hxm, vals', rads', ws', b1, b2, b3, b4, b5, b6, b7, b8, b9, b10, b11⟩, hF⟩, go⟩ := hr T hT X
  have hal : t.vm.Alike s.vm := by rw [← e2]; exact X'.warmed.alike.symm
  have hS1 : va_S Ad s.heap t.heap (locs ++ L) := by
    refine ⟨Nat.le_trans a6.1 (by rw [← h0]; exact hF.1), fun q hq hn => ?_, fun z hz => ?_⟩
    · rw [hF.2 q (by rw [h0]; exact Nat.lt_of_lt_of_le hq a6.1) (fun z => hn (hsub q z)), h0]
      exact a6.2.1 q hq hn
    · rcases List.mem_append.mp hz with z1 | z1
      · exact a6.2.2 z z1
      · exact hsub _ (hLf z z1)
  obtain ⟨t2, c1, c2⟩ := kk x hxm vals' rads' ws' t.heap (locs ++ L) v b1 b2 b3 ⟨b4, b5, b6.mono (fun _ _ h => tk_cl_moved hal h), b7, b8.weaken (fun _ _ _ z => hsub _ z), hS1, b9⟩ b10 b11 T' e1 X'
  exact ⟨t2, go t2 c1, c2⟩
theorem tk_pre {vals : List Int} {rads : List Nat} {ws : va_W} {H : Heap} {locs : List Loc} {rf : List Nat} {fa : tk_FA} {av : List Value} (hxo : rk_xok xw) (hxw : ∀ w ∈ xw, va_Nw w s) (hxt : tk_xtok xt) (hXt : xt Ad s s.heap) (hA : ∀ q, s.heap.size ≤ q → Ad q) (hK : va_K D cl [] s) (hR : tk_hs TY ro X ads tw s D cl Ad vals rads H locs rf fa ws) (hXw : X ws) (U : State) (hU : U.heap = H) (hW : s.WarmedH U.vm) : tk_Pre D cl xw xt TY ro X ads tw ws H.size av av.toArray U := by
  obtain ⟨a1, a2, a3, a4, a5, a6, a7⟩ := hR
  obtain ⟨x1, x2, x3⟩ := hxt
  refine ⟨rfl, by rw [hU], by rw [hU]; exact a4, va_K.moved hW.alike hK, a5.weaken (fun _ _ _ _ => trivial), a3.mono (fun _ _ h => tk_cl_moved hW.alike h), rk_xw_warm hxo hW hxw, ?_, hXw⟩
  rw [hU]
  refine x2 _ _ _ _ hW (x3 _ _ _ _ _ hXt (fun a ha hn => a6.2.1 a ha hn) ?_)
  rintro q (⟨k, e1, hk⟩ | hq)
  · exact a5.2 k _ hk
  · exact hA q (Nat.le_trans a6.1 hq)
end TKB
/-- the cells are as their types say -/
def tk_ob (TY : tk_TT) (ro : Nat → Nat → Int → Prop) (ads tw : List Nat) (ws : va_W) : Prop := ∀ t y : Nat, tk_ty ads tw t y → ∃ (j : Nat) (e : va_E), ws[j]? = some (y, e) ∧ match TY.1[t]? with
  | some (.inl o) => ∃ vs : List Value, e = .inr (o.1, vs) ∧ vs.length = o.2.length ∧ ∀ (i : Nat) (f : tk_F) (v : Value), o.2[i]? = some f → vs[i]? = some v → tk_fv ro TY.2.1 ads tw t i f v
  | some (.inr q) => ∃ (cA : ClassId) (z : vp_A), e = .inl (cA, z) ∧ z.1 = q.2.1 ∧ ∀ i, i < q.2.1 → tk_fv ro TY.2.1 ads tw t i q.2.2 (tk_el z i)
  | none => True
theorem tk_ob_of {TY : tk_TT} {ro : Nat → Nat → Int → Prop} {ads tw : List Nat} {s : State} {ws : va_W} (h4 : ws.map Prod.fst = ads) (h5 : rk_A2 (fun t (q : Nat × va_E) => tk_cl TY ro ads tw s t q.2) tw ws) : tk_ob TY ro ads tw ws := by
  intro t y hty
  obtain ⟨j, e1, hw, hj, hc1⟩ := tk_cell h4 h5 hty
  refine ⟨j, e1, hw, ?_⟩
  unfold tk_cl at hc1
  cases hT : TY.1[t]? with
  | none => trivial
  | some k =>
    rw [hT] at hc1
    cases k with
    | inl o => exact hc1
    | inr q =>
      obtain ⟨cA, -, -, harr⟩ := hc1
      unfold tk_ar at harr
      dsimp only
      split at harr
      all_goals first
        | exact harr.elim
        | (obtain ⟨f, rfl, hf⟩ := harr
           exact ⟨cA, _, rfl, rfl, hf⟩)
/-- the calls are sound, d frames deep -/
def tk_SC (l : Launch) (D : va_G) (cl : List vw_C) (tbl xw : List Jvm.Cond) (xt : tk_XT) (MN : List rk_N) (P : List rk_M2) (TY : tk_TT) (ro : Nat → Nat → Int → Prop) (X : va_W → Prop) (ads tw : List Nat) (d : Nat) (call : tk_Ca) : Prop :=
  ∀ (f : Nat) (as : List tk_V) (w : tk_W) (rf : List Nat) (fa : tk_FA) (o : tk_O), call f as w rf fa = some o → ∀ (q : rk_N), MN[f]? = some q → ∃ M, P[f]? = some M ∧ M.2.1 ≤ 21 ∧ ∀ (vals : List Int) (rads : List Nat) (ws : va_W) (av : List Value) (sz : Nat), tk_H w vals → rk_A2 (fun t y => tk_ty ads tw t y) rf rads → rk_A2 (tk_g vals rads) as av → ws.map Prod.fst = ads → (∀ z ∈ fa, tk_fk vals rads ws z) → tk_ob TY ro ads tw ws →
    Met l q.2.1 (Jvm.Cond.code q.2.1 q.2.2 M.2.1 M.2.2.2.2.1 :: tbl) { frames := d, cells := 0, slots := 0, locals := 40 * d } (tk_Pre D cl xw xt TY ro X ads tw ws sz av) (tk_Post D cl TY ro X ads tw o vals rads ws (va_A ws sz)) 0 0 (va_A ws sz)
end MH27_3
section MH27_4
/-! ===== tk: the calls ===== -/
def tk_pop : Nat → List tk_V → List tk_V → Option (List tk_V × List tk_V)
  | 0, acc, sk => some (acc, sk)
  | n + 1, acc, a :: sk => tk_pop n (a :: acc) sk
  | _ + 1, _, [] => none
def tk_sum : List tk_V → Nat
  | [] => 0
  | a :: r => tk_cat a + tk_sum r
theorem tk_pop_ok {vals : List Int} {rads : List Nat} : ∀ (n : Nat) {acc sk as r : List tk_V} {va stk : List Value}, tk_pop n acc sk = some (as, r) → rk_A2 (tk_g vals rads) acc va → rk_A2 (tk_g vals rads) sk stk → ∃ (v2 r2 : List Value), rk_A2 (tk_g vals rads) as (v2 ++ va) ∧ rk_A2 (tk_g vals rads) r r2 ∧ stk = v2.reverse ++ r2 ∧ v2.length = n := by
  intro n
  induction n with
  | zero => intro acc sk as r va stk h ha hs; cases h; exact ⟨[], stk, by simpa using ha, hs, by simp, rfl⟩
  | succ n ih =>
    intro acc sk as r va stk h ha hs
    cases sk with
    | nil => cases h
    | cons a sk =>
      obtain ⟨v, k, rfl, hg, hs⟩ := hs.cons
      obtain ⟨v2, r2, h1, h2, rfl, h4⟩ := ih (show tk_pop n (a :: acc) sk = some (as, r) from h) (show rk_A2 (tk_g vals rads) (a :: acc) (v :: va) from ⟨hg, ha⟩) hs
      exact ⟨v2 ++ [v], r2, by simpa using h1, h2, by simp, by simp [h4]⟩
theorem tk_sum_ok {vals : List Int} {rads : List Nat} : ∀ {r : List tk_V} {stk : List Value}, rk_A2 (tk_g vals rads) r stk → tk_sum r = (stk.map fun v => v.category).sum := by
  intro r
  induction r with
  | nil => intro stk h; rw [h.nil]; rfl
  | cons a r ih =>
    intro stk h
    obtain ⟨v, k, rfl, hg, hs⟩ := h.cons
    simp [tk_sum, tk_cat_ok hg, ih hs]
def tk_sub (mods m2 : List (Nat × Nat)) : Bool := m2.all (fun y => mods.any (fun z => Nat.beq z.1 y.1 && Nat.beq z.2 y.2))
theorem tk_sub_ok {mods m2 : List (Nat × Nat)} (h : tk_sub mods m2 = true) : ∀ z ∈ m2, z ∈ mods := by
  intro y hy
  obtain ⟨z, z1, z2⟩ := List.any_eq_true.mp (List.all_eq_true.mp h y hy)
  rw [Bool.and_eq_true] at z2
  have e1 : z = y := Prod.ext (Nat.eq_of_beq_eq_true z2.1) (Nat.eq_of_beq_eq_true z2.2)
  rw [← e1]
  exact z1
def tk_aft (pc : Nat) (lo : List (Nat × tk_V)) (r : List tk_V) (o : tk_O) : List (Nat × tk_S) := o.1.map (fun x => (pc, (lo, x.1.toList ++ r, x.2.1, x.2.2.1, x.2.2.2)))
def tk_f_cv (mods : List (Nat × Nat)) (TY : tk_TT) (mci : List Nat) (call : tk_Ca) (pc f n : Nat) : tk_Fn := fun st => match tk_pop n [] st.2.1 with
  | some (as, a :: r) => if a.1 = 2 ∧ tk_sum r ≤ 8 then (match st.2.2.2.1[a.2.1]? with
    | some t => (match TY.1[t]? with
      | some (.inl o) => if mci[f]? = some o.1 then (match call f (a :: as) st.2.2.1 st.2.2.2.1 st.2.2.2.2 with
        | some x => if tk_sub mods x.2 = true then some (tk_aft pc st.1 r x) else none
        | none => none) else none
      | _ => none)
    | none => none) else none
  | _ => none
def tk_f_cs (mods : List (Nat × Nat)) (call : tk_Ca) (pc f n : Nat) : tk_Fn := fun st => match tk_pop n [] st.2.1 with
  | some (as, r) => if tk_sum r ≤ 8 then (match call f as st.2.2.1 st.2.2.2.1 st.2.2.2.2 with
    | some x => if tk_sub mods x.2 = true then some (tk_aft pc st.1 r x) else none
    | none => none) else none
  | none => none
section TKV
variable {p : Program} {l : Launch} {e : Env} {R : Room} {s : State} {m : MethodId} {args : Array Value} {below : List Frame} {meth : Method} {c : Code} {Q : State → Prop} {cc : ByteArray} {D : va_G} {cl : List vw_C} {Ad : Nat → Prop} {nL : Nat} {vals0 : List Int} {rads0 : List Nat}
variable {mods : List (Nat × Nat)} {ws0 : va_W} {tbl xw : List Jvm.Cond} {fty : rk_F} {cln : List String} {MN : List rk_N} {mci : List Nat} {P : List rk_M2} {own : String} {lk : List (Nat × Nat × Nat × Nat)} {cs : List (Nat × Value)} {xt : tk_XT} {TY : tk_TT} {ro : Nat → Nat → Int → Prop} {X : va_W → Prop} {ads tw : List Nat}
/-- the ends of a call go on -/
theorem tk_aft_ok {ws : va_W} {pc : Nat} {lo : List (Nat × tk_V)} {r : List tk_V} {o : tk_O} {vals : List Int} {rads : List Nat} {ls : Array Slot} {rest : List Value} {lc : List (Nat × Value)} (hv0 : ∃ k, vals = vals0 ++ k) (hr0 : ∃ k, rads = rads0 ++ k) (hun : tk_ux TY X mods tw ws0 ws) (hsb : ∀ z ∈ o.2, z ∈ mods) (hl : lv_has ls nL lc) (hL : tk_Lo vals rads lo lc) (hS : rk_A2 (tk_g vals rads) r rest) (kk : ∀ q ∈ tk_aft pc lo r o, tk_St (rk_KW p l e R s m args below meth c Q) nL (tk_hr mods ws0 TY ro X ads tw s D cl Ad vals0 rads0) q.1 q.2) : ∀ x ∈ o.1, ∀ (vals' : List Int) (rads' : List Nat) (ws' : va_W) (H' : Heap) (locs' : List Loc) (v : Option Value), (∃ k, vals' = vals ++ k) → (∃ k, rads' = rads ++ k) → tk_H x.2.1 vals' → tk_hs TY ro X ads tw s D cl Ad vals' rads' H' locs' x.2.2.1 x.2.2.2 ws' → tk_ux TY X o.2 tw ws ws' → tk_ret x.1 vals' rads' (.returned v) → rk_KW p l e R s m args below meth c Q pc ls (v.toList ++ rest) H' locs' 0 0 := by
  intro x hx vals' rads' ws' H' locs' v hv hr hH hs hu2 hret
  obtain ⟨k1, rfl⟩ := hv
  obtain ⟨k2, rfl⟩ := hr
  obtain ⟨k3, hv0⟩ := hv0
  obtain ⟨k4, hr0⟩ := hr0
  obtain ⟨b1, b2, b3, b4, b5, b6, b7⟩ := hs
  refine kk _ (List.mem_map.mpr ⟨x, hx, rfl⟩) (vals ++ k1) (rads ++ k2) H' locs' ls _ lc hH ⟨⟨k3 ++ k1, by rw [hv0, List.append_assoc]⟩, ⟨k4 ++ k2, by rw [hr0, List.append_assoc]⟩, b1, ws', b2, b3, b4, b5, b6, ⟨tk_un_tr hun.1 hu2.1 hsb, hu2.2⟩, b7⟩ hl (hL.grow k1 k2) ?_
  have hS' := tk_skG hS k1 k2
  cases hx1 : x.1 with
  | none =>
    rw [hx1] at hret
    have : v = none := Outcome.returned.inj hret
    subst this
    exact hS'
  | some a =>
    rw [hx1] at hret
    obtain ⟨u, hg, eu⟩ := hret
    have : v = some u := Outcome.returned.inj eu
    subst this
    exact ⟨hg, hS'⟩
set_option maxHeartbeats 4000000 in
theorem tk_cv_ok (hxt : tk_xtok xt) (hXt : xt Ad s s.heap) (hok : rk_ok tbl xw cl fty cln MN mci P) (hx : p.tables.exec = Jvm.exec) (hb : c.code = cc) (hml : c.maxLocals = nL) (hF : rk_Fr s m args meth D cl Ad tbl xw fty cln own lk cs) (hck : ∀ r ∈ lk, rk_cok tbl xw MN P own r) {d : Nat} {call : tk_Ca} (hcall : tk_SC l D cl tbl xw xt MN P TY ro X ads tw d call) (hfr : d + 1 ≤ R.frames) (hlo : 40 * (d + 1) ≤ R.locals) {pc idx kd f n : Nat} {st : tk_S} {res : List (Nat × tk_S)} (hlk1 : rk_lk lk idx = some (kd, f, n)) (hkd : kd = 5 ∨ kd = 6) (hdg : decode cc pc = .ok (.invokevirtual idx, 3)) (h : tk_f_cv mods TY mci call (pc + 3) f n st = some res) (kk : ∀ q ∈ res, tk_St (rk_KW p l e R s m args below meth c Q) nL (tk_hr mods ws0 TY ro X ads tw s D cl Ad vals0 rads0) q.1 q.2) : tk_St (rk_KW p l e R s m args below meth c Q) nL (tk_hr mods ws0 TY ro X ads tw s D cl Ad vals0 rads0) pc st := by
  obtain ⟨hgw, hxo, -, -, hlenM, hmok, hmci⟩ := hok
  obtain ⟨hts, hxw, hown, hK, hA, hcl, hlk, hini, hac, hcs⟩ := hF
  obtain ⟨lo, sk, w, rf, fa⟩ := st
  intro vals rads H locs ls stk lc hH hR hl hL hS
  dsimp only at hH hR hL hS
  have hfix : CallFix p m c cc nL s args tbl own := ⟨hx, hb, hml, hown, hts⟩
  unfold tk_f_cv at h
  dsimp only at h
  split at h
  · next as a r hpop =>
    split at h
    · next hcnd =>
      split at h
      · next t ht =>
        split at h
        · next o1 hT =>
          split at h
          · next hci =>
            split at h
            · next o hcl1 =>
             split at h
             · next hsb =>
              cases h
              obtain ⟨v2, r2, ha1, hr1, rfl, hn⟩ := tk_pop_ok n hpop (show rk_A2 (tk_g vals rads) [] [] from trivial) hS
              rw [List.append_nil] at ha1
              obtain ⟨vr, rest, rfl, hgr, hS1⟩ := hr1.cons
              obtain ⟨x, hax, rfl⟩ := tk_g2 hgr hcnd.1
              obtain ⟨hv0, hr0, h3, ws, h4, h5, h6, h7, h8, hun, h9⟩ := id hR
              obtain ⟨x', hax', hty⟩ := h3.get ht
              rw [hax] at hax'
              cases hax'
              obtain ⟨j, e1, hw, hj, hc1⟩ := tk_cell h4 h5 hty
              unfold tk_cl at hc1
              rw [hT] at hc1
              obtain ⟨vs, rfl, hvl, hvs⟩ := hc1
              have hs : tk_hs TY ro X ads tw s D cl Ad vals rads H locs rf fa ws := ⟨h3, h4, h5, h6, h7, h8, h9⟩
              have hck1 := hck _ (rk_lk_mem hlk1)
              have hsum := hcnd.2
              rw [tk_sum_ok hS1] at hsum
              rcases hkd with rfl | rfl
              ·
                obtain ⟨q, hq, w1, w2, w3, w4⟩ := hck1
                obtain ⟨M, hM, hM21, hmet⟩ := hcall f _ _ _ _ _ hcl1 q hq
                obtain ⟨m1, m2, m3, m4, m5, -⟩ := hmok f q M hq hM
                obtain ⟨kq, hkq, -⟩ := hs.2.2.2.1 j _ hw
                have hkn := hmci f o1.1 q kq hci hq hkq
                have hrecv := va_recv hK hs.2.2.2.1 hkq hw
                rw [hkn] at hrecv
                refine tk_back (as := (Value.ref x :: v2).toArray) hA hs ?_ (tk_aft_ok (ws := ws) hv0 hr0 hun (tk_sub_ok hsb) hl hL hS1 kk)
                exact va_runV (C := q.1) hfix (hmet vals rads ws (.ref x :: v2) H.size hH h3 ⟨hgr, ha1⟩ h4 h9 (tk_ob_of h4 h5)) ⟨callB_of n hts (rk_good hgw m4) rfl rfl rfl (hts _ m5) (hts _ w1) ⟨m3.1, m3.2, w4⟩ ⟨hfr, by show 8 + (M.2.1 + 11) + 40 * d ≤ R.locals; omega⟩, hts _ w2, hts _ w3⟩ ⟨tk_blind hxo hxt, hrecv, fun U hU hW => tk_pre hxo hxw hxt hXt hA hK hs hun.2 U hU hW⟩ rfl hn hl.1 rfl (lv_room hsum) hdg ⟨Nat.zero_le _, Nat.zero_le _⟩
              ·
                obtain ⟨q, host, hq, w1, w2, w3, w4⟩ := hck1
                obtain ⟨M, hM, hM21, hmet⟩ := hcall f _ _ _ _ _ hcl1 q hq
                obtain ⟨m1, m2, m3, m4, m5, -⟩ := hmok f q M hq hM
                obtain ⟨kq, hkq, -⟩ := hs.2.2.2.1 j _ hw
                have hkn := hmci f o1.1 q kq hci hq hkq
                have hrecv := va_recv hK hs.2.2.2.1 hkq hw
                rw [hkn] at hrecv
                refine tk_back (as := (Value.ref x :: v2).toArray) hA hs ?_ (tk_aft_ok (ws := ws) hv0 hr0 hun (tk_sub_ok hsb) hl hL hS1 kk)
                exact va_runVN (C := q.1) hfix (hmet vals rads ws (.ref x :: v2) H.size hH h3 ⟨hgr, ha1⟩ h4 h9 (tk_ob_of h4 h5)) ⟨va_cnB n hts (rk_good hgw m4) rfl rfl rfl (hxw _ w1) (hts _ m5) ⟨m3.1, m3.2, w4⟩ ⟨hfr, by show 8 + (M.2.1 + 11) + 40 * d ≤ R.locals; omega⟩, hts _ w2, hts _ w3⟩ ⟨tk_blind hxo hxt, hrecv, fun U hU hW => tk_pre hxo hxw hxt hXt hA hK hs hun.2 U hU hW⟩ rfl hn hl.1 rfl (lv_room hsum) hdg ⟨Nat.zero_le _, Nat.zero_le _⟩
             · cases h
            · cases h
          · cases h
        · cases h
      · cases h
    · cases h
  · cases h
set_option maxHeartbeats 4000000 in
theorem tk_cs_ok (hxt : tk_xtok xt) (hXt : xt Ad s s.heap) (hok : rk_ok tbl xw cl fty cln MN mci P) (hx : p.tables.exec = Jvm.exec) (hb : c.code = cc) (hml : c.maxLocals = nL) (hF : rk_Fr s m args meth D cl Ad tbl xw fty cln own lk cs) (hck : ∀ r ∈ lk, rk_cok tbl xw MN P own r) {d : Nat} {call : tk_Ca} (hcall : tk_SC l D cl tbl xw xt MN P TY ro X ads tw d call) (hfr : d + 1 ≤ R.frames) (hlo : 40 * (d + 1) ≤ R.locals) {pc idx kd f n : Nat} {st : tk_S} {res : List (Nat × tk_S)} (hlk1 : rk_lk lk idx = some (kd, f, n)) (hkd : kd = 7 ∨ kd = 8) (hdg : decode cc pc = .ok (.invokestatic idx, 3)) (h : tk_f_cs mods call (pc + 3) f n st = some res) (kk : ∀ q ∈ res, tk_St (rk_KW p l e R s m args below meth c Q) nL (tk_hr mods ws0 TY ro X ads tw s D cl Ad vals0 rads0) q.1 q.2) : tk_St (rk_KW p l e R s m args below meth c Q) nL (tk_hr mods ws0 TY ro X ads tw s D cl Ad vals0 rads0) pc st := by
  obtain ⟨hgw, hxo, -, -, hlenM, hmok, hmci⟩ := hok
  obtain ⟨hts, hxw, hown, hK, hA, hcl, hlk, hini, hac, hcs⟩ := hF
  obtain ⟨lo, sk, w, rf, fa⟩ := st
  intro vals rads H locs ls stk lc hH hR hl hL hS
  dsimp only at hH hR hL hS
  have hfix : CallFix p m c cc nL s args tbl own := ⟨hx, hb, hml, hown, hts⟩
  unfold tk_f_cs at h
  dsimp only at h
  split at h
  · next as r hpop =>
    split at h
    · next hcnd =>
      split at h
      · next o hcl1 =>
           split at h
           · next hsb =>
            cases h
            obtain ⟨v2, rest, ha1, hS1, rfl, hn⟩ := tk_pop_ok n hpop (show rk_A2 (tk_g vals rads) [] [] from trivial) hS
            rw [List.append_nil] at ha1
            obtain ⟨hv0, hr0, h3, ws, h4, h5, h6, h7, h8, hun, h9⟩ := id hR
            have hs : tk_hs TY ro X ads tw s D cl Ad vals rads H locs rf fa ws := ⟨h3, h4, h5, h6, h7, h8, h9⟩
            have hck1 := hck _ (rk_lk_mem hlk1)
            have hsum := hcnd
            rw [tk_sum_ok hS1] at hsum
            rcases hkd with rfl | rfl
            ·
              obtain ⟨q, hq, w1, w2, w4⟩ := hck1
              obtain ⟨M, hM, hM21, hmet⟩ := hcall f _ _ _ _ _ hcl1 q hq
              obtain ⟨m1, m2, m3, m4, m5, -⟩ := hmok f q M hq hM
              refine tk_back (as := v2.toArray) hA hs ?_ (tk_aft_ok (ws := ws) hv0 hr0 hun (tk_sub_ok hsb) hl hL hS1 kk)
              exact va_runS hfix (hmet vals rads ws v2 H.size hH h3 ha1 h4 h9 (tk_ob_of h4 h5)) ⟨callB_of n hts (rk_good hgw m4) rfl rfl rfl (hts _ m5) (hts _ w1) ⟨m3.1, m3.2, w4⟩ ⟨hfr, by show 8 + (M.2.1 + 11) + 40 * d ≤ R.locals; omega⟩, hts _ w2⟩ ⟨tk_blind hxo hxt, fun U hU hW => tk_pre hxo hxw hxt hXt hA hK hs hun.2 U hU hW⟩ rfl hn hl.1 rfl (lv_room hsum) hdg ⟨Nat.zero_le _, Nat.zero_le _⟩
            ·
              obtain ⟨q, host, hq, w1, w2, w4⟩ := hck1
              obtain ⟨M, hM, hM21, hmet⟩ := hcall f _ _ _ _ _ hcl1 q hq
              obtain ⟨m1, m2, m3, m4, m5, -⟩ := hmok f q M hq hM
              refine tk_back (as := v2.toArray) hA hs ?_ (tk_aft_ok (ws := ws) hv0 hr0 hun (tk_sub_ok hsb) hl hL hS1 kk)
              exact va_runSN hfix (hmet vals rads ws v2 H.size hH h3 ha1 h4 h9 (tk_ob_of h4 h5)) ⟨va_cnB n hts (rk_good hgw m4) rfl rfl rfl (hxw _ w1) (hts _ m5) ⟨m3.1, m3.2, w4⟩ ⟨hfr, by show 8 + (M.2.1 + 11) + 40 * d ≤ R.locals; omega⟩, hts _ w2, trivial⟩ ⟨tk_blind hxo hxt, fun U hU hW => tk_pre hxo hxw hxt hXt hA hK hs hun.2 U hU hW⟩ rfl hn hl.1 rfl (lv_room hsum) hdg ⟨Nat.zero_le _, Nat.zero_le _⟩
           · cases h
      · cases h
    · cases h
  · cases h
end TKV
end MH27_4
section MH27_5
/-! ===== tk: System.arraycopy, Math ===== -/
def tk_cpr (env : List tk_I) (s n : tk_V) (N : Nat) : Bool := match tk_iv env s, tk_iv env n with
  | some I, some J => decide (0 ≤ I.1) && (decide (0 ≤ J.1) && decide (I.2 + J.2 ≤ (N : Int)))
  | _, _ => false
theorem tk_cpr_ok {env : List tk_I} {vals : List Int} {s n : tk_V} {N : Nat} {x y : Int32} (hE : tk_E env vals) (hs : tk_num vals s = some x.toInt) (hn : tk_num vals n = some y.toInt) (h : tk_cpr env s n N = true) : ¬ x < 0 ∧ ¬ y < 0 ∧ x.toNatClampNeg + y.toNatClampNeg ≤ N := by
  unfold tk_cpr at h
  split at h
  · next I J hI hJ =>
    have p1 := tk_iv_ok hE hs hI
    have p2 := tk_iv_ok hE hn hJ
    rw [Bool.and_eq_true, Bool.and_eq_true, decide_eq_true_eq, decide_eq_true_eq, decide_eq_true_eq] at h
    have z0 : (0 : Int32).toInt = 0 := rfl
    refine ⟨fun q => ?_, fun q => ?_, ?_⟩
    · have := Int32.lt_iff_toInt_lt.mp q
      omega
    · have := Int32.lt_iff_toInt_lt.mp q
      omega
    · show x.toInt.toNat + y.toInt.toNat ≤ N
      omega
  · cases h
theorem tk_rg_none {TY : tk_TT} {t : Nat} (h : (TY.2.2.1 t).isNone = true) (i : Nat) : tk_rg TY t i = 0 := by
  unfold tk_rg
  split
  · rfl
  · next g e => rw [e] at h; cases h
/-- a fact that stays where any place of type t is written -/
def tk_kpa (rf : List Nat) (t : Nat) (q : Nat × tk_V × tk_V) : Bool := match rf[q.1]? with
  | some t' => !(Nat.beq t' t)
  | none => false
theorem tk_fk_oth {Ad : Nat → Prop} {ads tw : List Nat} {rf : List Nat} {vals : List Int} {rads : List Nat} {ws : va_W} {q : Nat × tk_V × tk_V} {j x t : Nat} {e e' : va_E} (h3 : rk_A2 (fun t y => tk_ty ads tw t y) rf rads) (h4 : ws.map Prod.fst = ads) (h7 : va_D Ad ws) (hw : ws[j]? = some (x, e)) (hj : tw[j]? = some t) (hk : tk_kpa rf t q = true) (h : tk_fk vals rads ws q) : tk_fk vals rads (ws.set j (x, e')) q := by
  obtain ⟨y, j', i, e2, v, g1, g2, g3, g4, g5⟩ := h
  by_cases ej : j = j'
  · subst ej
    rw [hw] at g3
    cases g3
    obtain ⟨t', ht', j2, hj2, hj3⟩ := h3.getR g1
    rw [← h4, List.getElem?_map] at hj2
    obtain ⟨z, hz, ez⟩ := Option.map_eq_some_iff.mp hj2
    have e2 := h7.1 j2 j z _ hz hw ez
    subst e2
    rw [hj] at hj3
    cases hj3
    unfold tk_kpa at hk
    rw [ht'] at hk
    have hk : (!(Nat.beq t t)) = true := hk
    rw [show Nat.beq t t = true from Nat.beq_refl t] at hk
    cases hk
  · exact ⟨y, j', i, e2, v, g1, g2, by rw [List.getElem?_set_ne ej]; exact g3, g4, g5⟩
def tk_f_cpy (mods : List (Nat × Nat)) (TY : tk_TT) (pc : Nat) : tk_Fn := fun st => match st.2.1 with
  | n :: dp :: d :: sp :: a :: r => if n.1 = 0 ∧ dp.1 = 0 ∧ d.1 = 2 ∧ sp.1 = 0 ∧ a.1 = 2 ∧ tk_sum r ≤ 8 then (match st.2.2.2.1[a.2.1]?, st.2.2.2.1[d.2.1]? with
    | some t0, some t1 => (match TY.1[t0]?, TY.1[t1]? with
      | some (.inr (.int, n0, f0)), some (.inr (.int, n1, f1)) => if tk_cpr st.2.2.1.1 sp n n0 = true ∧ tk_cpr st.2.2.1.1 dp n n1 = true ∧ f0.1 = 0 ∧ f1.1 = 0 ∧ f1.2.1 ≤ f0.2.1 ∧ f0.2.2 ≤ f1.2.2 ∧ (TY.2.2.1 t1).isNone = true ∧ tk_mw TY mods t1 0 = true then some [(pc, (st.1, r, st.2.2.1, st.2.2.2.1, st.2.2.2.2.filter (tk_kpa st.2.2.2.1 t1)))] else none
      | some (.inr (.long, n0, f0)), some (.inr (.long, n1, f1)) => if tk_cpr st.2.2.1.1 sp n n0 = true ∧ tk_cpr st.2.2.1.1 dp n n1 = true ∧ f0.1 = 1 ∧ f1.1 = 1 ∧ f1.2.1 ≤ f0.2.1 ∧ f0.2.2 ≤ f1.2.2 ∧ (TY.2.2.1 t1).isNone = true ∧ tk_mw TY mods t1 0 = true then some [(pc, (st.1, r, st.2.2.1, st.2.2.2.1, st.2.2.2.2.filter (tk_kpa st.2.2.2.1 t1)))] else none
      | _, _ => none)
    | _, _ => none) else none
  | _ => none
def tk_f_mm (k : Nat) (c1 c2 : ClassFile.Cond) (pc : Nat) : tk_Fn := fun st => match st.2.1 with
  | b :: a :: r => if a.1 = k ∧ b.1 = k ∧ tk_sum r ≤ 8 then some (tk_ws pc st.1 (a :: r) st.2.2.2 (tk_cond c1 st.2.2.1 a b) ++ tk_ws pc st.1 (b :: r) st.2.2.2 (tk_cond c2 st.2.2.1 a b)) else none
  | _ => none
def tk_negs (pc : Nat) (lo : List (Nat × tk_V)) (a : tk_V) (r : List tk_V) (rest : List Nat × tk_FA) : List tk_W → Option (List (Nat × tk_S))
  | [] => some []
  | w :: ws => match tk_subv 0 w.1 (0, 0, 0, 0) a, tk_negs pc lo a r rest ws with
    | some q, some l => some ((pc, (lo, q.1 :: r, (q.2, w.2), rest)) :: l)
    | _, _ => none
theorem tk_negs_mem {pc : Nat} {lo : List (Nat × tk_V)} {a : tk_V} {r : List tk_V} {rest : List Nat × tk_FA} {w : tk_W} : ∀ {ws : List tk_W} {l : List (Nat × tk_S)}, tk_negs pc lo a r rest ws = some l → w ∈ ws → ∃ q, tk_subv 0 w.1 (0, 0, 0, 0) a = some q ∧ (pc, (lo, q.1 :: r, (q.2, w.2), rest)) ∈ l := by
  intro ws
  induction ws with
  | nil => intro l _ h; exact absurd h List.not_mem_nil
  | cons w0 ws ih =>
    intro l h hw
    unfold tk_negs at h
    split at h
    · next q l0 hq hl =>
      cases h
      rcases List.mem_cons.mp hw with rfl | hw
      · exact ⟨q, hq, List.mem_cons_self⟩
      · obtain ⟨q2, g1, g2⟩ := ih hl hw
        exact ⟨q2, g1, List.mem_cons_of_mem _ g2⟩
    · cases h
def tk_f_abs (pc : Nat) : tk_Fn := fun st => match st.2.1 with
  | a :: r => if a.1 = 0 ∧ tk_sum r ≤ 8 then (match tk_negs pc st.1 a r st.2.2.2 (tk_cond .lt st.2.2.1 a (0, 0, 0, 0)) with
    | some l => some (tk_ws pc st.1 (a :: r) st.2.2.2 (tk_cond .ge st.2.2.1 a (0, 0, 0, 0)) ++ l)
    | none => none) else none
  | _ => none
section TKN
variable {p : Program} {l : Launch} {e : Env} {R : Room} {s : State} {m : MethodId} {args : Array Value} {below : List Frame} {meth : Method} {c : Code} {Q : State → Prop} {cc : ByteArray} {D : va_G} {cl : List vw_C} {Ad : Nat → Prop} {nL : Nat} {vals0 : List Int} {rads0 : List Nat}
variable {mods : List (Nat × Nat)} {ws0 : va_W} {tbl xw : List Jvm.Cond} {fty : rk_F} {cln : List String} {own : String} {lk : List (Nat × Nat × Nat × Nat)} {cs : List (Nat × Value)} {TY : tk_TT} {ro : Nat → Nat → Int → Prop} {X : va_W → Prop} {ads tw : List Nat}
set_option maxHeartbeats 4000000 in
theorem tk_cpy_ok (hx : p.tables.exec = Jvm.exec) (hb : c.code = cc) (hml : c.maxLocals = nL) (hF : rk_Fr s m args meth D cl Ad tbl xw fty cln own lk cs) (hfr : 1 ≤ R.frames) (hlo : 40 ≤ R.locals) (hkk : ∀ r ∈ lk, rk_kok tbl own r) {pc idx a0 a1 : Nat} {st : tk_S} {res : List (Nat × tk_S)} (hlk1 : rk_lk lk idx = some (12, a0, a1)) (hdg : decode cc pc = .ok (.invokestatic idx, 3)) (hXs : tk_xs TY X ads tw) (h : tk_f_cpy mods TY (pc + 3) st = some res) (kk : ∀ q ∈ res, tk_St (rk_KW p l e R s m args below meth c Q) nL (tk_hr mods ws0 TY ro X ads tw s D cl Ad vals0 rads0) q.1 q.2) : tk_St (rk_KW p l e R s m args below meth c Q) nL (tk_hr mods ws0 TY ro X ads tw s D cl Ad vals0 rads0) pc st := by
  obtain ⟨hts, hxw, hown, hK, hA, hcl, hlk, hini, hac, hcs⟩ := hF
  obtain ⟨w1, w2, w3, w4⟩ := hkk _ (rk_lk_mem hlk1) rfl
  have hnf : nativeFrameWords "java/lang/System" "arraycopy" 5 ≤ 20 := by decide +kernel
  obtain ⟨lo, sk, w, rf, fa⟩ := st
  intro vals rads H locs ls stk lc hH hR hl hL hS
  dsimp only at hH hR hL hS
  unfold tk_f_cpy at h
  split at h
  · next n dp d sp a r e1 =>
    dsimp only at e1
    subst e1
    split at h
    · next hk =>
      obtain ⟨k1, k2, k3, k4, k5, hsum⟩ := hk
      split at h
      · next t0 t1 ht0 ht1 =>
        dsimp only at ht0 ht1
        obtain ⟨vn, j1, rfl, gn, hSa⟩ := hS.cons
        obtain ⟨vd, j2, rfl, gdp, hSb⟩ := hSa.cons
        obtain ⟨vo, j3, rfl, gd, hSc⟩ := hSb.cons
        obtain ⟨vs, j4, rfl, gsp, hSd⟩ := hSc.cons
        obtain ⟨va, j5, rfl, ga, hSe⟩ := hSd.cons
        rw [tk_sum_ok hSe] at hsum
        obtain ⟨xn, rfl, nn⟩ := tk_g0 gn k1
        obtain ⟨xd, rfl, nd⟩ := tk_g0 gdp k2
        obtain ⟨xs, rfl, ns⟩ := tk_g0 gsp k4
        obtain ⟨y1, hd1, rfl⟩ := tk_g2 gd k3
        obtain ⟨y0, hd0, rfl⟩ := tk_g2 ga k5
        obtain ⟨hv0, hr0, h3, ws, h4, h5, h6, h7, h8, hun, h9⟩ := id hR
        obtain ⟨x', hax', hty0⟩ := h3.get ht0
        rw [hd0] at hax'; cases hax'
        obtain ⟨x', hax', hty1⟩ := h3.get ht1
        rw [hd1] at hax'; cases hax'
        obtain ⟨q0, e0, hw0, hj0, hc0⟩ := tk_cell h4 h5 hty0
        obtain ⟨q1, e1, hw1, hj1, hc1⟩ := tk_cell h4 h5 hty1
        unfold tk_cl at hc0 hc1
        split at h
        · next n0 f0 n1 f1 hT0 hT1 =>
          rw [hT0] at hc0
          rw [hT1] at hc1
          split at h
          · next hc =>
            cases h
            obtain ⟨c1, c2, c3, c4, c5, c6, c7, c8⟩ := hc
            obtain ⟨cA0, hA01, hA02, f, rfl, hf⟩ := hc0
            obtain ⟨cA1, hA11, hA12, g, rfl, hg⟩ := hc1
            obtain ⟨b1, b2, b3⟩ := tk_cpr_ok hH.1 ns nn c1
            obtain ⟨b4, b5, b6⟩ := tk_cpr_ok hH.1 nd nn c2
            have hK2 : va_K D cl [(cA0, .int), (cA1, .int)] s := (rk_K1 hK hA01 hA02).app (rk_K1 hK hA11 hA12)
            refine va_copyi (ty := .int) hx hb (by rw [hml]; exact hl.1.symm) hown (hts _ w1) (hts _ w2) (hts _ w3) (hts _ w4) hK2 h6 h7 h8 q0 q1 0 1 hw0 hw1 rfl rfl rfl b1 b4 b2 b3 b6 (fun _ _ => rfl) hfr (by omega) hdg (fun H1 locs1 hP1 hD1 hS1 => ?_)
            refine kk _ (List.mem_singleton.mpr rfl) vals rads H1 locs1 ls _ lc hH ⟨hv0, hr0, h3, _, by rw [rk_map_set hw1]; exact h4, tk_A2_setR ?_ h5 hj1, hP1, hD1, hS1, tk_ux_set hXs hun hw1 hj1 c8 (fun i hi => absurd (tk_rg_none c7 i) hi) ⟨0, tk_rg_none c7 0⟩, fun z hz => tk_fk_oth h3 h4 h7 hw1 hj1 (List.mem_filter.mp hz).2 (h9 z (List.mem_filter.mp hz).1)⟩ hl hL hSe
            show tk_cl TY ro ads tw s t1 _
            unfold tk_cl
            rw [hT1]
            refine ⟨cA1, hA11, hA12, _, rfl, fun i hi => ?_⟩
            by_cases hin : xd.toNatClampNeg ≤ i ∧ i < xd.toNatClampNeg + xn.toNatClampNeg
            · rw [pk_cpy_in hin.1 hin.2]
              have := hf (xs.toNatClampNeg + (i - xd.toNatClampNeg)) (by show _ < n0; omega)
              unfold tk_fv at this ⊢
              dsimp only at this ⊢
              rw [c3] at this
              rw [c4]
              obtain ⟨z, e9, u1, u2⟩ := this
              exact ⟨z, e9, by omega, by omega⟩
            · rw [pk_cpy_out (by omega)]
              exact hg i hi
          · cases h
        · next n0 f0 n1 f1 hT0 hT1 =>
          rw [hT0] at hc0
          rw [hT1] at hc1
          split at h
          · next hc =>
            cases h
            obtain ⟨c1, c2, c3, c4, c5, c6, c7, c8⟩ := hc
            obtain ⟨cA0, hA01, hA02, f, rfl, hf⟩ := hc0
            obtain ⟨cA1, hA11, hA12, g, rfl, hg⟩ := hc1
            obtain ⟨b1, b2, b3⟩ := tk_cpr_ok hH.1 ns nn c1
            obtain ⟨b4, b5, b6⟩ := tk_cpr_ok hH.1 nd nn c2
            have hK2 : va_K D cl [(cA0, .long), (cA1, .long)] s := (rk_K1 hK hA01 hA02).app (rk_K1 hK hA11 hA12)
            refine va_copyl (ty := .long) hx hb (by rw [hml]; exact hl.1.symm) hown (hts _ w1) (hts _ w2) (hts _ w3) (hts _ w4) hK2 h6 h7 h8 q0 q1 0 1 hw0 hw1 rfl rfl rfl b1 b4 b2 b3 b6 (fun _ _ => rfl) hfr (by omega) hdg (fun H1 locs1 hP1 hD1 hS1 => ?_)
            refine kk _ (List.mem_singleton.mpr rfl) vals rads H1 locs1 ls _ lc hH ⟨hv0, hr0, h3, _, by rw [rk_map_set hw1]; exact h4, tk_A2_setR ?_ h5 hj1, hP1, hD1, hS1, tk_ux_set hXs hun hw1 hj1 c8 (fun i hi => absurd (tk_rg_none c7 i) hi) ⟨0, tk_rg_none c7 0⟩, fun z hz => tk_fk_oth h3 h4 h7 hw1 hj1 (List.mem_filter.mp hz).2 (h9 z (List.mem_filter.mp hz).1)⟩ hl hL hSe
            show tk_cl TY ro ads tw s t1 _
            unfold tk_cl
            rw [hT1]
            refine ⟨cA1, hA11, hA12, _, rfl, fun i hi => ?_⟩
            by_cases hin : xd.toNatClampNeg ≤ i ∧ i < xd.toNatClampNeg + xn.toNatClampNeg
            · rw [pk_cpy_in hin.1 hin.2]
              have := hf (xs.toNatClampNeg + (i - xd.toNatClampNeg)) (by show _ < n0; omega)
              unfold tk_fv at this ⊢
              dsimp only at this ⊢
              rw [c3] at this
              rw [c4]
              obtain ⟨z, e9, u1, u2⟩ := this
              exact ⟨z, e9, by omega, by omega⟩
            · rw [pk_cpy_out (by omega)]
              exact hg i hi
          · cases h
        · cases h
      · cases h
    · cases h
  · cases h
theorem tk_mm_i (hx : p.tables.exec = Jvm.exec) (hb : c.code = cc) (hml : c.maxLocals = nL) (hF : rk_Fr s m args meth D cl Ad tbl xw fty cln own lk cs) (hfr : 1 ≤ R.frames) (hlo : 40 ≤ R.locals) {pc idx a0 a1 : Nat} {st : tk_S} {res : List (Nat × tk_S)} (hlk1 : rk_lk lk idx = some (14, a0, a1)) (hdg : decode cc pc = .ok (.invokestatic idx, 3)) (h : tk_f_mm 0 .ge .lt (pc + 3) st = some res) (kk : ∀ q ∈ res, tk_St (rk_KW p l e R s m args below meth c Q) nL (tk_hr mods ws0 TY ro X ads tw s D cl Ad vals0 rads0) q.1 q.2) : tk_St (rk_KW p l e R s m args below meth c Q) nL (tk_hr mods ws0 TY ro X ads tw s D cl Ad vals0 rads0) pc st := by
  obtain ⟨hts, hxw, hown, hK, hA, hcl, hlk, hini, hac, hcs⟩ := hF
  obtain ⟨w1, w2, w3, w4⟩ := hlk _ (rk_lk_mem hlk1)
  obtain ⟨lo, sk, w, rf, fa⟩ := st
  intro vals rads H locs ls stk lc hH hR hl hL hS
  dsimp only at hH hR hL hS
  unfold tk_f_mm at h
  split at h
  · next b a r e1 =>
    dsimp only at e1
    subst e1
    split at h
    · next hk =>
      cases h
      obtain ⟨vb, k1, rfl, gb, hS1⟩ := hS.cons
      obtain ⟨va, k2, rfl, ga, hS2⟩ := hS1.cons
      obtain ⟨x, rfl, hx1⟩ := tk_g0 ga hk.1
      obtain ⟨y, rfl, hy1⟩ := tk_g0 gb hk.2.1
      have hsum := hk.2.2
      rw [tk_sum_ok hS2] at hsum
      refine va_mmax hx hb (by rw [hml]; exact hl.1.symm) hown (hts _ w1) (hts _ w2) (hts _ w3) (hts _ w4) hfr (by omega) (Nat.zero_le _) (Nat.zero_le _) hdg ?_
      split
      · next hlt =>
        obtain ⟨w', h1, h2⟩ := tk_cond_ok .lt hH hx1 hy1 (Int32.lt_iff_toInt_lt.mp hlt)
        exact tk_ws_ok h1 (fun z hz => List.mem_append_right _ hz) kk vals rads H locs ls _ lc h2 hR hl hL ⟨gb, hS2⟩
      · next hlt =>
        obtain ⟨w', h1, h2⟩ := tk_cond_ok .ge hH hx1 hy1 (show y.toInt ≤ x.toInt from Int.not_lt.mp (fun z => hlt (Int32.lt_iff_toInt_lt.mpr z)))
        exact tk_ws_ok h1 (fun z hz => List.mem_append_left _ hz) kk vals rads H locs ls _ lc h2 hR hl hL ⟨ga, hS2⟩
    · cases h
  · cases h
theorem tk_mn_i (hx : p.tables.exec = Jvm.exec) (hb : c.code = cc) (hml : c.maxLocals = nL) (hF : rk_Fr s m args meth D cl Ad tbl xw fty cln own lk cs) (hfr : 1 ≤ R.frames) (hlo : 40 ≤ R.locals) {pc idx a0 a1 : Nat} {st : tk_S} {res : List (Nat × tk_S)} (hlk1 : rk_lk lk idx = some (15, a0, a1)) (hdg : decode cc pc = .ok (.invokestatic idx, 3)) (h : tk_f_mm 0 .le .gt (pc + 3) st = some res) (kk : ∀ q ∈ res, tk_St (rk_KW p l e R s m args below meth c Q) nL (tk_hr mods ws0 TY ro X ads tw s D cl Ad vals0 rads0) q.1 q.2) : tk_St (rk_KW p l e R s m args below meth c Q) nL (tk_hr mods ws0 TY ro X ads tw s D cl Ad vals0 rads0) pc st := by
  obtain ⟨hts, hxw, hown, hK, hA, hcl, hlk, hini, hac, hcs⟩ := hF
  obtain ⟨w1, w2, w3, w4⟩ := hlk _ (rk_lk_mem hlk1)
  obtain ⟨lo, sk, w, rf, fa⟩ := st
  intro vals rads H locs ls stk lc hH hR hl hL hS
  dsimp only at hH hR hL hS
  unfold tk_f_mm at h
  split at h
  · next b a r e1 =>
    dsimp only at e1
    subst e1
    split at h
    · next hk =>
      cases h
      obtain ⟨vb, k1, rfl, gb, hS1⟩ := hS.cons
      obtain ⟨va, k2, rfl, ga, hS2⟩ := hS1.cons
      obtain ⟨x, rfl, hx1⟩ := tk_g0 ga hk.1
      obtain ⟨y, rfl, hy1⟩ := tk_g0 gb hk.2.1
      have hsum := hk.2.2
      rw [tk_sum_ok hS2] at hsum
      refine va_mmin hx hb (by rw [hml]; exact hl.1.symm) hown (hts _ w1) (hts _ w2) (hts _ w3) (hts _ w4) hfr (by omega) (Nat.zero_le _) (Nat.zero_le _) hdg ?_
      split
      · next hlt =>
        obtain ⟨w', h1, h2⟩ := tk_cond_ok .gt hH hx1 hy1 (Int32.lt_iff_toInt_lt.mp hlt)
        exact tk_ws_ok h1 (fun z hz => List.mem_append_right _ hz) kk vals rads H locs ls _ lc h2 hR hl hL ⟨gb, hS2⟩
      · next hlt =>
        obtain ⟨w', h1, h2⟩ := tk_cond_ok .le hH hx1 hy1 (show x.toInt ≤ y.toInt from Int.not_lt.mp (fun z => hlt (Int32.lt_iff_toInt_lt.mpr z)))
        exact tk_ws_ok h1 (fun z hz => List.mem_append_left _ hz) kk vals rads H locs ls _ lc h2 hR hl hL ⟨ga, hS2⟩
    · cases h
  · cases h
theorem tk_mm_l (hx : p.tables.exec = Jvm.exec) (hb : c.code = cc) (hml : c.maxLocals = nL) (hF : rk_Fr s m args meth D cl Ad tbl xw fty cln own lk cs) (hfr : 1 ≤ R.frames) (hlo : 40 ≤ R.locals) {pc idx a0 a1 : Nat} {st : tk_S} {res : List (Nat × tk_S)} (hlk1 : rk_lk lk idx = some (16, a0, a1)) (hdg : decode cc pc = .ok (.invokestatic idx, 3)) (h : tk_f_mm 1 .gt .le (pc + 3) st = some res) (kk : ∀ q ∈ res, tk_St (rk_KW p l e R s m args below meth c Q) nL (tk_hr mods ws0 TY ro X ads tw s D cl Ad vals0 rads0) q.1 q.2) : tk_St (rk_KW p l e R s m args below meth c Q) nL (tk_hr mods ws0 TY ro X ads tw s D cl Ad vals0 rads0) pc st := by
  obtain ⟨hts, hxw, hown, hK, hA, hcl, hlk, hini, hac, hcs⟩ := hF
  obtain ⟨w1, w2, w3, w4⟩ := hlk _ (rk_lk_mem hlk1)
  obtain ⟨lo, sk, w, rf, fa⟩ := st
  intro vals rads H locs ls stk lc hH hR hl hL hS
  dsimp only at hH hR hL hS
  unfold tk_f_mm at h
  split at h
  · next b a r e1 =>
    dsimp only at e1
    subst e1
    split at h
    · next hk =>
      cases h
      obtain ⟨vb, k1, rfl, gb, hS1⟩ := hS.cons
      obtain ⟨va, k2, rfl, ga, hS2⟩ := hS1.cons
      obtain ⟨x, rfl, hx1⟩ := tk_g1 ga hk.1
      obtain ⟨y, rfl, hy1⟩ := tk_g1 gb hk.2.1
      have hsum := hk.2.2
      rw [tk_sum_ok hS2] at hsum
      refine va_mmax_long hx hb (by rw [hml]; exact hl.1.symm) hown (hts _ w1) (hts _ w2) (hts _ w3) (hts _ w4) hfr (by omega) (Nat.zero_le _) (Nat.zero_le _) hdg ?_
      split
      · next hlt =>
        obtain ⟨w', h1, h2⟩ := tk_cond_ok .gt hH hx1 hy1 (Int64.lt_iff_toInt_lt.mp hlt)
        exact tk_ws_ok h1 (fun z hz => List.mem_append_left _ hz) kk vals rads H locs ls _ lc h2 hR hl hL ⟨ga, hS2⟩
      · next hlt =>
        obtain ⟨w', h1, h2⟩ := tk_cond_ok .le hH hx1 hy1 (show x.toInt ≤ y.toInt from Int.not_lt.mp (fun z => hlt (Int64.lt_iff_toInt_lt.mpr z)))
        exact tk_ws_ok h1 (fun z hz => List.mem_append_right _ hz) kk vals rads H locs ls _ lc h2 hR hl hL ⟨gb, hS2⟩
    · cases h
  · cases h
theorem tk_abs_i (hx : p.tables.exec = Jvm.exec) (hb : c.code = cc) (hml : c.maxLocals = nL) (hF : rk_Fr s m args meth D cl Ad tbl xw fty cln own lk cs) (hfr : 1 ≤ R.frames) (hlo : 40 ≤ R.locals) {pc idx a0 a1 : Nat} {st : tk_S} {res : List (Nat × tk_S)} (hlk1 : rk_lk lk idx = some (17, a0, a1)) (hdg : decode cc pc = .ok (.invokestatic idx, 3)) (h : tk_f_abs (pc + 3) st = some res) (kk : ∀ q ∈ res, tk_St (rk_KW p l e R s m args below meth c Q) nL (tk_hr mods ws0 TY ro X ads tw s D cl Ad vals0 rads0) q.1 q.2) : tk_St (rk_KW p l e R s m args below meth c Q) nL (tk_hr mods ws0 TY ro X ads tw s D cl Ad vals0 rads0) pc st := by
  obtain ⟨hts, hxw, hown, hK, hA, hcl, hlk, hini, hac, hcs⟩ := hF
  obtain ⟨w1, w2, w3, w4⟩ := hlk _ (rk_lk_mem hlk1)
  obtain ⟨lo, sk, w, rf, fa⟩ := st
  intro vals rads H locs ls stk lc hH hR hl hL hS
  dsimp only at hH hR hL hS
  unfold tk_f_abs at h
  split at h
  · next a r e1 =>
    dsimp only at e1
    subst e1
    split at h
    · next hk =>
      split at h
      · next li hneg =>
        cases h
        obtain ⟨va, k2, rfl, ga, hS2⟩ := hS.cons
        obtain ⟨x, rfl, hx1⟩ := tk_g0 ga hk.1
        have hsum := hk.2
        rw [tk_sum_ok hS2] at hsum
        have hz : tk_num vals (0, 0, 0, 0) = some 0 := rfl
        refine va_mabs hx hb (by rw [hml]; exact hl.1.symm) hown (hts _ w1) (hts _ w2) (hts _ w3) (hts _ w4) hfr (by omega) (Nat.zero_le _) (Nat.zero_le _) hdg ?_
        split
        · next hle =>
          obtain ⟨w', h1, h2⟩ := tk_cond_ok .ge hH hx1 hz (show (0 : Int) ≤ x.toInt from Int32.le_iff_toInt_le.mp hle)
          exact tk_ws_ok h1 (fun z hz => List.mem_append_left _ hz) kk vals rads H locs ls _ lc h2 hR hl hL ⟨ga, hS2⟩
        · next hle =>
          obtain ⟨w', h1, h2⟩ := tk_cond_ok .lt hH hx1 hz (show x.toInt < (0 : Int) from Int.not_le.mp (fun z => hle (Int32.le_iff_toInt_le.mpr z)))
          obtain ⟨q, g1, g2⟩ := tk_negs_mem hneg h1
          have := tk_subv_ok h2.1 (show tk_num vals (0, 0, 0, 0) = some (0 : Int32).toInt from rfl) hx1 g1
          rw [← tk_w_sub] at this
          exact tk_finI tk_hr_gr (fun z hz => kk z (by rw [List.mem_singleton.mp hz]; exact List.mem_append_right _ g2)) this h2.2 hR hl hL hS2
      · cases h
    · cases h
  · cases h
end TKN
end MH27_5
section MH27_6
/-! ===== tk: what is left of a long by a long above 0: below it ===== -/
theorem tk_lrem_nn {x y : Int64} (hx : 0 ≤ x.toInt) (hy : 0 < y.toInt) : (x - x / y * y).toInt = x.toInt % y.toInt := by
  have b1 := Int64.toInt_lt x
  have hq0 : 0 ≤ x.toInt / y.toInt := Int.ediv_nonneg hx (Int.le_of_lt hy)
  have hq1 : x.toInt / y.toInt ≤ x.toInt := Int.ediv_le_self _ hx
  have hdm := Int.mul_ediv_add_emod x.toInt y.toInt
  have hr0 := Int.emod_nonneg x.toInt (show y.toInt ≠ 0 by omega)
  have hr1 := Int.emod_lt_of_pos x.toInt hy
  have hm0 : 0 ≤ y.toInt * (x.toInt / y.toInt) := Int.mul_nonneg (Int.le_of_lt hy) hq0
  have e1 : (x / y).toInt = x.toInt / y.toInt := by
    rw [Int64.toInt_div, Int.tdiv_eq_ediv_of_nonneg hx]
    apply Int.bmod_eq_of_le <;> omega
  generalize hq : x.toInt / y.toInt = q at *
  generalize hm : y.toInt * q = mm at *
  have e2 : (x / y * y).toInt = mm := by
    rw [Int64.toInt_mul, e1, Int.mul_comm, hm]
    apply Int.bmod_eq_of_le <;> omega
  have hsub : x.toInt - mm = x.toInt % y.toInt := by omega
  rw [Int64.toInt_sub, e2, hsub]
  apply Int.bmod_eq_of_le <;> omega
def tk_lremW (w : tk_W) (a b : tk_V) : Option (tk_V × tk_W) := match tk_iv w.1 a, tk_iv w.1 b with
  | some I, some J => if 0 ≤ I.1 ∧ 0 < J.1 ∧ ¬ (a.2.1 = 0 ∧ b.2.1 = 0) then some ((1, w.1.length + 1, 1, 0), (w.1 ++ [(0, min I.2 (J.2 - 1))], if 0 < b.2.1 ∧ b.2.2.1 = 1 then (w.1.length, b.2.1 - 1, b.2.2.2 - 1) :: w.2 else w.2)) else none
  | _, _ => none
def tk_f_lrem (pc : Nat) : tk_Fn := fun st => match st.2.1 with
  | b :: a :: r => if a.1 = 1 ∧ b.1 = 1 then (match tk_lremW st.2.2.1 a b with
    | some q => some [(pc, (st.1, q.1 :: r, q.2, st.2.2.2))]
    | none => none) else none
  | _ => none
section TKLR
variable {p : Program} {l : Launch} {e : Env} {R : Room} {s : State} {m : MethodId} {args : Array Value} {below : List Frame} {meth : Method} {c : Code} {Q : State → Prop} {cc : ByteArray} {nL : Nat} {Hr : tk_Hr}
theorem tk_lrem_ok (hx : p.tables.exec = Jvm.exec) (hb : c.code = cc) (hgr : tk_gr Hr) {pc : Nat} {st : tk_S} {res : List (Nat × tk_S)} (hdg : decode cc pc = .ok (.lrem, 1)) (hF : tk_f_lrem (pc + 1) st = some res) (kk : ∀ q ∈ res, tk_St (rk_KW p l e R s m args below meth c Q) nL Hr q.1 q.2) : tk_St (rk_KW p l e R s m args below meth c Q) nL Hr pc st := by
  obtain ⟨lo, sk, w, rest⟩ := st
  intro vals rads H locs ls stk lc hH hR hl hL hS
  dsimp only at hH hR hL hS
  unfold tk_f_lrem at hF
  dsimp only at hF
  split at hF
  · next b a r =>
    split at hF
    · next hc =>
      split at hF
      · next q hq =>
        cases hF
        obtain ⟨vb, k1, rfl, gb, hS1⟩ := hS.cons
        obtain ⟨va, k2, rfl, ga, hS2⟩ := hS1.cons
        obtain ⟨x, rfl, hx1⟩ := tk_g1 ga hc.1
        obtain ⟨y, rfl, hy1⟩ := tk_g1 gb hc.2
        unfold tk_lremW at hq
        split at hq
        · next I J hI hJ =>
          split at hq
          · next h0 =>
            cases hq
            have p1 := tk_iv_ok hH.1 hx1 hI
            have p2 := tk_iv_ok hH.1 hy1 hJ
            have er := tk_lrem_nn (x := x) (y := y) (by omega) (by omega)
            have hr0 := Int.emod_nonneg x.toInt (show y.toInt ≠ 0 by omega)
            have hr1 := Int.emod_lt_of_pos x.toInt (show 0 < y.toInt by omega)
            have hr2 : x.toInt % y.toInt ≤ x.toInt := by
              have hq0 : 0 ≤ y.toInt * (x.toInt / y.toInt) := Int.mul_nonneg (by omega) (Int.ediv_nonneg (by omega) (by omega))
              have hdm := Int.mul_ediv_add_emod x.toInt y.toInt
              omega
            have hne : ¬ y = 0 := fun z => by
              have : y.toInt = 0 := by rw [z]; rfl
              omega
            refine lv_lrem hx hb hdg hne ?_
            have hlen : w.1.length = vals.length := hH.1.len
            have hget : (vals ++ [x.toInt % y.toInt])[w.1.length]? = some (x.toInt % y.toInt) := by
              rw [hlen, List.getElem?_append_right (Nat.le_refl _), Nat.sub_self]
              rfl
            have hL' := hL.grow [x.toInt % y.toInt] []
            have hS' := tk_skG hS2 [x.toInt % y.toInt] []
            rw [List.append_nil] at hL' hS'
            refine kk _ (List.mem_singleton.mpr rfl) (vals ++ [x.toInt % y.toInt]) rads H locs ls _ lc ⟨rk_A2.push hH.1 ⟨by dsimp only; omega, by dsimp only; omega⟩, ?_⟩ (hgr _ _ _ _ _ _ _ hR) hl hL' ⟨tk_gl rfl ?_, hS'⟩
            · dsimp only
              split
              · next h1 =>
                intro z hz
                rcases List.mem_cons.mp hz with rfl | hz
                · obtain ⟨k, v, e1, hv, e2⟩ := tk_sym hy1 h1.1
                  rw [h1.2] at e2
                  have hv' : (vals ++ [x.toInt % y.toInt])[b.2.1 - 1]? = some v := by
                    rw [e1]
                    show (vals ++ [x.toInt % y.toInt])[k]? = some v
                    rw [List.getElem?_append_left (List.getElem?_eq_some_iff.mp hv).1]
                    exact hv
                  exact ⟨_, _, hget, hv', by dsimp only; omega⟩
                · exact tk_C_grow _ hH.2 z hz
              · exact tk_C_grow _ hH.2
            · rw [er]
              show (match (vals ++ [x.toInt % y.toInt])[w.1.length]? with
                | some z => some (((1 : Nat) : Int) * z + 0)
                | none => none) = some (x.toInt % y.toInt)
              rw [hget]
              show some (((1 : Nat) : Int) * (x.toInt % y.toInt) + 0) = some (x.toInt % y.toInt)
              congr 1
              omega
          · cases hq
        · cases hq
      · cases hF
    · cases hF
  · cases hF
end TKLR
end MH27_6
section MH27_7
/-! ===== tk: each instruction's function, all of them; it is sound ===== -/
def tk_or (f g : tk_Fn) : tk_Fn := fun st => match f st with
  | some r => some r
  | none => g st
def tk_csti : Option Value → Option Value
  | some (.int x) => some (.int x)
  | _ => none
def tk_cstl : Option Value → Option Value
  | some (.long x) => some (.long x)
  | _ => none
def tk_fun (mods : List (Nat × Nat)) (TY : tk_TT) (fty : rk_F) (mci : List Nat) (call : tk_Ca) (M : rk_M2) (pc : Nat) (ins : Instr) : Option tk_Fn := match ins with
  | .getfield idx => match rk_lk M.2.2.1 idx with
    | some (kd, ci, k) => some (tk_f_get TY (pc + 3) kd ci k)
    | none => none
  | .putfield idx => match rk_lk M.2.2.1 idx with
    | some (kd, ci, k) => some (tk_f_put mods TY fty (pc + 3) kd ci k)
    | none => none
  | .iaload => some (tk_f_ld0 TY (pc + 1))
  | .baload => some (tk_f_ld1 TY (pc + 1))
  | .laload => some (tk_f_ld2 TY (pc + 1))
  | .aaload => some (tk_or (tk_f_ld3 TY (pc + 1)) (tk_f_ld4 TY (pc + 1)))
  | .iastore => some (tk_f_sa0 mods TY (pc + 1))
  | .bastore => some (tk_f_sa1 mods TY (pc + 1))
  | .lastore => some (tk_f_sa2 mods TY (pc + 1))
  | .arraylength => some (tk_f_len TY (pc + 1))
  | .lrem => some (tk_or (tk_f_lrem (pc + 1)) (tk_f_b 1 (pc + 1) (tk_dv (fun env a b => some (tk_lop (fun x y => x - x / y * y) env a b)))))
  | .tableswitch d lo hi offs => some (tk_f_tab pc d lo hi offs.toList)
  | .lookupswitch d ps => some (tk_f_lks pc d ps.toList)
  | .ldc idx => some (tk_f_cst (pc + 2) (tk_csti (rk_cst M.2.2.2.1 idx)))
  | .ldc_w idx => some (tk_f_cst (pc + 3) (tk_csti (rk_cst M.2.2.2.1 idx)))
  | .ldc2_w idx => some (tk_f_cst (pc + 3) (tk_cstl (rk_cst M.2.2.2.1 idx)))
  | .invokevirtual idx => match rk_lk M.2.2.1 idx with
    | some (kd, f, n) => if kd = 5 ∨ kd = 6 then some (tk_f_cv mods TY mci call (pc + 3) f n) else none
    | none => none
  | .invokestatic idx => match rk_lk M.2.2.1 idx with
    | some (kd, f, n) => if kd = 7 ∨ kd = 8 then some (tk_f_cs mods call (pc + 3) f n) else if kd = 12 then some (tk_f_cpy mods TY (pc + 3)) else if kd = 14 then some (tk_f_mm 0 .ge .lt (pc + 3)) else if kd = 15 then some (tk_f_mm 0 .le .gt (pc + 3)) else if kd = 16 then some (tk_f_mm 1 .gt .le (pc + 3)) else if kd = 17 then some (tk_f_abs (pc + 3)) else none
    | none => none
  | ins => tk_pf M.2.1 pc ins
section TKF
variable {p : Program} {l : Launch} {e : Env} {R : Room} {s : State} {m : MethodId} {args : Array Value} {below : List Frame} {meth : Method} {c : Code} {Q : State → Prop} {cc : ByteArray} {D : va_G} {cl : List vw_C} {Ad : Nat → Prop} {vals0 : List Int} {rads0 : List Nat}
variable {mods : List (Nat × Nat)} {ws0 : va_W} {tbl xw : List Jvm.Cond} {fty : rk_F} {cln : List String} {MN : List rk_N} {mci : List Nat} {P : List rk_M2} {own : String} {xt : tk_XT} {TY : tk_TT} {ro : Nat → Nat → Int → Prop} {X : va_W → Prop} {ads tw : List Nat}
set_option maxHeartbeats 8000000 in
theorem tk_fun_ok (hXs : tk_xs TY X ads tw) (hxt : tk_xtok xt) (hXt : xt Ad s s.heap) (hok : rk_ok tbl xw cl fty cln MN mci P) (hx : p.tables.exec = Jvm.exec) (hb : c.code = cc) {M : rk_M2} (hml : c.maxLocals = M.2.1) (hF : rk_Fr s m args meth D cl Ad tbl xw fty cln own M.2.2.1 M.2.2.2.1) (hck : ∀ r ∈ M.2.2.1, rk_cok tbl xw MN P own r) (hkk : ∀ r ∈ M.2.2.1, rk_kok tbl own r) {d : Nat} {call : tk_Ca} (hcall : tk_SC l D cl tbl xw xt MN P TY ro X ads tw d call) (hfr : d + 1 ≤ R.frames) (hlo : 40 * (d + 1) ≤ R.locals) {pc : Nat} {ins : Instr} {len : Nat} {F : tk_Fn} {st : tk_S} {res : List (Nat × tk_S)} (hdg : decode cc pc = .ok (ins, len)) (hlen : rk_len ins len = true) (h : tk_fun mods TY fty mci call M pc ins = some F) (hFs : F st = some res) (kk : ∀ q ∈ res, tk_St (rk_KW p l e R s m args below meth c Q) M.2.1 (tk_hr mods ws0 TY ro X ads tw s D cl Ad vals0 rads0) q.1 q.2) : tk_St (rk_KW p l e R s m args below meth c Q) M.2.1 (tk_hr mods ws0 TY ro X ads tw s D cl Ad vals0 rads0) pc st := by
  have hcs0 := hF
  obtain ⟨hts, hxw, hown, hK, hA, hcl, hlk, hini, hac, hcs⟩ := hcs0
  cases ins
  case getfield idx =>
    simp [rk_len] at hlen; subst hlen
    change (match rk_lk M.2.2.1 idx with
      | some (kd, ci, k) => some (tk_f_get TY (pc + 3) kd ci k)
      | none => none) = some F at h
    split at h
    · next kd ci k hlk1 =>
      obtain rfl := Option.some.inj h
      exact tk_get_ok hx hb hF hlk1 hdg hFs kk
    · cases h
  case putfield idx =>
    simp [rk_len] at hlen; subst hlen
    change (match rk_lk M.2.2.1 idx with
      | some (kd, ci, k) => some (tk_f_put mods TY fty (pc + 3) kd ci k)
      | none => none) = some F at h
    split at h
    · next kd ci k hlk1 =>
      obtain rfl := Option.some.inj h
      exact tk_put_ok hx hb hF hlk1 hdg hXs hFs kk
    · cases h
  case iaload => simp [rk_len] at hlen; subst hlen; obtain rfl := Option.some.inj h; exact tk_ld0_ok hx hb hF hdg hFs kk
  case baload => simp [rk_len] at hlen; subst hlen; obtain rfl := Option.some.inj h; exact tk_ld1_ok hx hb hF hdg hFs kk
  case laload => simp [rk_len] at hlen; subst hlen; obtain rfl := Option.some.inj h; exact tk_ld2_ok hx hb hF hdg hFs kk
  case aaload =>
    simp [rk_len] at hlen; subst hlen
    obtain rfl := Option.some.inj h
    unfold tk_or at hFs
    split at hFs
    · next r hr => cases hFs; exact tk_ld3_ok hx hb hF hdg hr kk
    · exact tk_ld4_ok hx hb hF hdg hFs kk
  case iastore => simp [rk_len] at hlen; subst hlen; obtain rfl := Option.some.inj h; exact tk_sa0_ok hx hb hF hdg hXs hFs kk
  case bastore => simp [rk_len] at hlen; subst hlen; obtain rfl := Option.some.inj h; exact tk_sa1_ok hx hb hF hdg hXs hFs kk
  case lastore => simp [rk_len] at hlen; subst hlen; obtain rfl := Option.some.inj h; exact tk_sa2_ok hx hb hF hdg hXs hFs kk
  case lrem =>
    simp [rk_len] at hlen; subst hlen
    obtain rfl := Option.some.inj h
    unfold tk_or at hFs
    split at hFs
    · next r hr => cases hFs; exact tk_lrem_ok hx hb tk_hr_gr hdg hr kk
    · exact tk_pf_ok (ins := .lrem) (len := 1) hx hb tk_hr_gr hdg rfl rfl hFs kk
  case arraylength => simp [rk_len] at hlen; subst hlen; obtain rfl := Option.some.inj h; exact tk_len_ok hx hb hF hdg hFs kk
  case tableswitch dd lo hi offs => obtain rfl := Option.some.inj h; exact tk_tab_ok hx hb hdg hFs kk
  case lookupswitch dd ps => obtain rfl := Option.some.inj h; exact tk_lks_ok hx hb hdg hFs kk
  case invokevirtual idx =>
    simp [rk_len] at hlen; subst hlen
    change (match rk_lk M.2.2.1 idx with
      | some (kd, f, n) => if kd = 5 ∨ kd = 6 then some (tk_f_cv mods TY mci call (pc + 3) f n) else none
      | none => none) = some F at h
    split at h
    · next kd f n hlk1 =>
      split at h
      · next hkd =>
        obtain rfl := Option.some.inj h
        exact tk_cv_ok hxt hXt hok hx hb hml hF hck hcall hfr hlo hlk1 hkd hdg hFs kk
      · cases h
    · cases h
  case invokestatic idx =>
    simp [rk_len] at hlen; subst hlen
    change (match rk_lk M.2.2.1 idx with
      | some (kd, f, n) => if kd = 7 ∨ kd = 8 then some (tk_f_cs mods call (pc + 3) f n) else if kd = 12 then some (tk_f_cpy mods TY (pc + 3)) else if kd = 14 then some (tk_f_mm 0 .ge .lt (pc + 3)) else if kd = 15 then some (tk_f_mm 0 .le .gt (pc + 3)) else if kd = 16 then some (tk_f_mm 1 .gt .le (pc + 3)) else if kd = 17 then some (tk_f_abs (pc + 3)) else none
      | none => none) = some F at h
    split at h
    · next kd f n hlk1 =>
      split at h
      · next hkd =>
        obtain rfl := Option.some.inj h
        exact tk_cs_ok hxt hXt hok hx hb hml hF hck hcall hfr hlo hlk1 hkd hdg hFs kk
      · have hfr1 : 1 ≤ R.frames := by omega
        have hlo1 : 40 ≤ R.locals := by omega
        split at h
        · next e => subst e; obtain rfl := Option.some.inj h; exact tk_cpy_ok hx hb hml hF hfr1 hlo1 hkk hlk1 hdg hXs hFs kk
        · split at h
          · next e => subst e; obtain rfl := Option.some.inj h; exact tk_mm_i hx hb hml hF hfr1 hlo1 hlk1 hdg hFs kk
          · split at h
            · next e => subst e; obtain rfl := Option.some.inj h; exact tk_mn_i hx hb hml hF hfr1 hlo1 hlk1 hdg hFs kk
            · split at h
              · next e => subst e; obtain rfl := Option.some.inj h; exact tk_mm_l hx hb hml hF hfr1 hlo1 hlk1 hdg hFs kk
              · split at h
                · next e => subst e; obtain rfl := Option.some.inj h; exact tk_abs_i hx hb hml hF hfr1 hlo1 hlk1 hdg hFs kk
                · cases h
    · cases h
  case ldc idx =>
    simp [rk_len] at hlen; subst hlen
    obtain rfl := Option.some.inj h
    obtain ⟨lo, sk, w, rest⟩ := st
    intro vals rads H locs ls stk lc hH hR hl hL hS
    cases hc1 : rk_cst M.2.2.2.1 idx with
    | none => rw [hc1] at hFs; exact (tk_nosome (show (none : tk_R) = some res from hFs)).elim
    | some v =>
      rw [hc1] at hFs
      cases v with
      | int x =>
        obtain rfl := Option.some.inj hFs
        exact lv_ldc hx hb hown (hts _ ((hcs _ (rk_cst_mem hc1)).1 x rfl)) hdg (kk _ (List.mem_singleton.mpr rfl) vals rads H locs ls _ lc hH hR hl hL ⟨tk_gi rfl rfl, hS⟩)
      | _ => exact (tk_nosome (show (none : tk_R) = some res from hFs)).elim
  case ldc_w idx =>
    simp [rk_len] at hlen; subst hlen
    obtain rfl := Option.some.inj h
    obtain ⟨lo, sk, w, rest⟩ := st
    intro vals rads H locs ls stk lc hH hR hl hL hS
    cases hc1 : rk_cst M.2.2.2.1 idx with
    | none => rw [hc1] at hFs; exact (tk_nosome (show (none : tk_R) = some res from hFs)).elim
    | some v =>
      rw [hc1] at hFs
      cases v with
      | int x =>
        obtain rfl := Option.some.inj hFs
        exact lv_ldcw hx hb hown (hts _ ((hcs _ (rk_cst_mem hc1)).1 x rfl)) hdg (kk _ (List.mem_singleton.mpr rfl) vals rads H locs ls _ lc hH hR hl hL ⟨tk_gi rfl rfl, hS⟩)
      | _ => exact (tk_nosome (show (none : tk_R) = some res from hFs)).elim
  case ldc2_w idx =>
    simp [rk_len] at hlen; subst hlen
    obtain rfl := Option.some.inj h
    obtain ⟨lo, sk, w, rest⟩ := st
    intro vals rads H locs ls stk lc hH hR hl hL hS
    cases hc1 : rk_cst M.2.2.2.1 idx with
    | none => rw [hc1] at hFs; exact (tk_nosome (show (none : tk_R) = some res from hFs)).elim
    | some v =>
      rw [hc1] at hFs
      cases v with
      | long x =>
        obtain rfl := Option.some.inj hFs
        exact lv_ldc2 hx hb hown (hts _ ((hcs _ (rk_cst_mem hc1)).2 x rfl)) hdg (kk _ (List.mem_singleton.mpr rfl) vals rads H locs ls _ lc hH hR hl hL ⟨tk_gl rfl rfl, hS⟩)
      | _ => exact (tk_nosome (show (none : tk_R) = some res from hFs)).elim
  all_goals exact tk_pf_ok hx hb tk_hr_gr hdg hlen h hFs kk
end TKF
end MH27_7
