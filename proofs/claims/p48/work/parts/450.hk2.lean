/-! ===== tk: refinements: a number is told apart at thresholds ===== -/
/-- where (0 a local, 1 a place of the stack), which; how (0 each value up to c, 1 at c less local j, else the list) -/
abbrev tk_Op : Type := (Nat × Nat) × Nat × Int × Nat × List Int
def tk_thr (a : tk_V) : List Int → List tk_I → List (List tk_I)
  | [], env => [env]
  | t :: ts, env => match tk_iv env a with
    | none => [env]
    | some I => (tk_cut env a I.1 t).toList ++ (match tk_cut env a (t + 1) I.2 with
      | some e => tk_thr a ts e
      | none => [])
theorem tk_thr_ok {vals : List Int} {a : tk_V} {x : Int} (hn : tk_num vals a = some x) : ∀ {ts : List Int} {env : List tk_I}, tk_E env vals → ∃ e ∈ tk_thr a ts env, tk_E e vals := by
  intro ts
  induction ts with
  | nil => intro env hE; exact ⟨env, List.mem_singleton.mpr rfl, hE⟩
  | cons t ts ih =>
    intro env hE
    unfold tk_thr
    split
    · exact ⟨env, List.mem_singleton.mpr rfl, hE⟩
    · next I hI =>
      have b := tk_iv_ok hE hn hI
      by_cases h : x ≤ t
      · obtain ⟨e, g1, g2⟩ := tk_cut_ok (lo := I.1) (hi := t) hE hn b.1 h
        exact ⟨e, List.mem_append_left _ (tk_toL g1), g2⟩
      · obtain ⟨e, g1, g2⟩ := tk_cut_ok (lo := t + 1) (hi := I.2) hE hn (by omega) b.2
        obtain ⟨e2, g3, g4⟩ := ih g2
        refine ⟨e2, List.mem_append_right _ ?_, g4⟩
        rw [g1]
        exact g3
def tk_ths (lo : List (Nat × tk_V)) (env : List tk_I) (I : tk_I) (op : tk_Op) : List Int := match op.2.1 with
  | 0 => if min I.2 (op.2.2.1 + 1) - I.1 ≤ 400 then (List.range (min I.2 (op.2.2.1 + 1) - I.1).toNat).map (fun (k : Nat) => I.1 + (k : Int)) else []
  | 1 => (match tk_ld lo op.2.2.2.1 with
    | some b => (match tk_iv env b with
      | some J => if J.1 = J.2 then [op.2.2.1 - J.1] else []
      | none => [])
    | none => [])
  | _ => op.2.2.2.2
abbrev tk_SE : Type := List tk_V × List tk_I
def tk_rop (lo : List (Nat × tk_V)) (op : tk_Op) (z : tk_SE) : List tk_SE := match op.1.1 with
  | 0 => (match tk_ld lo op.1.2 with
    | some a => cond (Nat.ble a.1 1) (match tk_iv z.2 a with
      | some I => (tk_thr a (tk_ths lo z.2 I op) z.2).map (fun e => (z.1, e))
      | none => [z]) [z]
    | none => [z])
  | _ => (match z.1[op.1.2]? with
    | some a => cond (Nat.ble a.1 1) (match tk_iv z.2 a with
      | some I => (tk_thr a (tk_ths lo z.2 I op) z.2).map (fun e => (z.1.set op.1.2 (tk_nm e a), e))
      | none => [z]) [z]
    | none => [z])
theorem tk_A2_setL {α β : Type} {R : α → β → Prop} {a : α} : ∀ {l : List α} {l' : List β} {i : Nat}, rk_A2 R l l' → (∀ b, l'[i]? = some b → R a b) → rk_A2 R (l.set i a) l' := by
  intro l
  induction l with
  | nil => intro l' i h _; exact h
  | cons x l ih =>
    intro l' i h hr
    cases l' with
    | nil => exact h.elim
    | cons y l' =>
      cases i with
      | zero => exact ⟨hr y rfl, h.2⟩
      | succ i => exact ⟨h.1, ih h.2 (fun b hb => hr b hb)⟩
theorem tk_rop_ok {vals : List Int} {rads : List Nat} {lo : List (Nat × tk_V)} {lc : List (Nat × Value)} {stk : List Value} {op : tk_Op} {z : tk_SE} (hL : tk_Lo vals rads lo lc) (hE : tk_E z.2 vals) (hS : rk_A2 (tk_g vals rads) z.1 stk) : ∃ y ∈ tk_rop lo op z, tk_E y.2 vals ∧ rk_A2 (tk_g vals rads) y.1 stk := by
  have hz : ∃ y ∈ [z], tk_E y.2 vals ∧ rk_A2 (tk_g vals rads) y.1 stk := ⟨z, List.mem_singleton.mpr rfl, hE, hS⟩
  unfold tk_rop
  split
  · split
    · next a ha =>
      cases hb : Nat.ble a.1 1 with
      | false => exact hz
      | true =>
        dsimp only [cond]
        split
        · next I hI =>
          obtain ⟨v, -, hg⟩ := tk_ld_ok hL ha
          obtain ⟨x, hx, -⟩ := tk_gnum (Nat.le_of_ble_eq_true hb) hg
          obtain ⟨e, g1, g2⟩ := tk_thr_ok hx (ts := tk_ths lo z.2 I op) hE
          exact ⟨_, List.mem_map.mpr ⟨e, g1, rfl⟩, g2, hS⟩
        · exact hz
    · exact hz
  · split
    · next a ha =>
      cases hb : Nat.ble a.1 1 with
      | false => exact hz
      | true =>
        dsimp only [cond]
        split
        · next I hI =>
          obtain ⟨v, hv, hg⟩ := hS.get ha
          obtain ⟨x, hx, -⟩ := tk_gnum (Nat.le_of_ble_eq_true hb) hg
          obtain ⟨e, g1, g2⟩ := tk_thr_ok hx (ts := tk_ths lo z.2 I op) hE
          refine ⟨_, List.mem_map.mpr ⟨e, g1, rfl⟩, g2, tk_A2_setL hS (fun b hb2 => ?_)⟩
          rw [hv] at hb2
          cases hb2
          exact tk_nm_ok g2 hg
        · exact hz
    · exact hz
def tk_rops (lo : List (Nat × tk_V)) : List tk_Op → tk_SE → List tk_SE
  | [], z => [z]
  | op :: r, z => (tk_rop lo op z).flatMap (tk_rops lo r)
theorem tk_rops_ok {vals : List Int} {rads : List Nat} {lo : List (Nat × tk_V)} {lc : List (Nat × Value)} {stk : List Value} (hL : tk_Lo vals rads lo lc) : ∀ {ops : List tk_Op} {z : tk_SE}, tk_E z.2 vals → rk_A2 (tk_g vals rads) z.1 stk → ∃ y ∈ tk_rops lo ops z, tk_E y.2 vals ∧ rk_A2 (tk_g vals rads) y.1 stk := by
  intro ops
  induction ops with
  | nil => intro z hE hS; exact ⟨z, List.mem_singleton.mpr rfl, hE, hS⟩
  | cons op r ih =>
    intro z hE hS
    obtain ⟨y, g1, g2, g3⟩ := tk_rop_ok (op := op) hL hE hS
    obtain ⟨y2, g4, g5, g6⟩ := ih g2 g3
    exact ⟨y2, List.mem_flatMap.mpr ⟨y, g1, g4⟩, g5, g6⟩
/-- differences narrow both bounds -/
def tk_tg2 : List tk_Q → List tk_I → Option (List tk_I)
  | [], e => some e
  | q :: r, e => match e[q.1]?, e[q.2.1]? with
    | some I, some J => (match tk_cut e (0, q.1 + 1, 1, 0) I.1 (J.2 + q.2.2) with
      | some e1 => (match tk_cut e1 (0, q.2.1 + 1, 1, 0) (I.1 - q.2.2) J.2 with
        | some e2 => tk_tg2 r e2
        | none => none)
      | none => none)
    | _, _ => tk_tg2 r e
theorem tk_tg2_ok {vals : List Int} : ∀ {cs : List tk_Q} {e : List tk_I}, tk_E e vals → tk_C cs vals → ∃ e', tk_tg2 cs e = some e' ∧ tk_E e' vals := by
  intro cs
  induction cs with
  | nil => intro e hE _; exact ⟨e, rfl, hE⟩
  | cons q r ih =>
    intro e hE hC
    have hr : tk_C r vals := fun z hz => hC z (List.mem_cons_of_mem _ hz)
    unfold tk_tg2
    split
    · next I J hI hJ =>
      obtain ⟨x, y, hx, hy, hxy⟩ := hC q List.mem_cons_self
      obtain ⟨x', hx', b1, b2⟩ := hE.get hI
      rw [hx] at hx'
      obtain rfl := Option.some.inj hx'
      obtain ⟨y', hy', b3, b4⟩ := hE.get hJ
      rw [hy] at hy'
      obtain rfl := Option.some.inj hy'
      have hn : ∀ (k : Nat) (x : Int), vals[k]? = some x → tk_num vals (0, k + 1, 1, 0) = some x := fun k x hk => by
        show (match vals[k]? with
          | some z => some (((1 : Nat) : Int) * z + 0)
          | none => none) = some x
        rw [hk]
        show some (((1 : Nat) : Int) * x + 0) = some x
        congr 1
        omega
      obtain ⟨e1, g1, g2⟩ := tk_cut_ok (lo := I.1) (hi := J.2 + q.2.2) hE (hn _ _ hx) b1 (by omega)
      obtain ⟨e2, g3, g4⟩ := tk_cut_ok (lo := I.1 - q.2.2) (hi := J.2) g2 (hn _ _ hy) (by omega) b4
      rw [g1]
      dsimp only
      rw [g3]
      exact ih g4 hr
    · exact ih hE hr
def tk_hkR (L : List (Nat × List tk_Op)) : Nat → tk_S → Option (List tk_S) := fun pc st => match L.find? (fun q => Nat.beq q.1 pc) with
  | some q => some ((tk_rops st.1 q.2 (st.2.1, st.2.2.1.1)).filterMap (fun z => match tk_tg2 st.2.2.1.2 z.2 with
    | some e' => some (st.1, z.1, (e', st.2.2.1.2), st.2.2.2)
    | none => none))
  | none => none
theorem tk_hkR_ok {TY : tk_TT} {ro : Nat → Nat → Int → Prop} {X : va_W → Prop} {ads tw : List Nat} (L : List (Nat × List tk_Op)) : tk_hkok TY ro X ads tw (tk_hkR L) := by
  intro mods ws0 s D cl Ad vals0 rads0 nL K pc st l h kk
  intro vals rads H locs ls stk lc hH hR hl hL hS
  unfold tk_hkR at h
  split at h
  · next q hq =>
    cases h
    obtain ⟨y, g1, g2, g5⟩ := tk_rops_ok hL (ops := q.2) (z := (st.2.1, st.2.2.1.1)) hH.1 hS
    obtain ⟨e2, g3, g4⟩ := tk_tg2_ok g2 hH.2
    exact kk (st.1, y.1, (e2, st.2.2.1.2), st.2.2.2) (List.mem_filterMap.mpr ⟨y, g1, by rw [g3]⟩) vals rads H locs ls stk lc ⟨g4, hH.2⟩ hR hl hL g5
  · cases h
/-- the first that says something -/
def tk_hkO (f g : Nat → tk_S → Option (List tk_S)) : Nat → tk_S → Option (List tk_S) := fun pc st => match f pc st with
  | some l => some l
  | none => g pc st
theorem tk_hkO_ok {TY : tk_TT} {ro : Nat → Nat → Int → Prop} {X : va_W → Prop} {ads tw : List Nat} {f g : Nat → tk_S → Option (List tk_S)} (hf : tk_hkok TY ro X ads tw f) (hg : tk_hkok TY ro X ads tw g) : tk_hkok TY ro X ads tw (tk_hkO f g) := by
  intro mods ws0 s D cl Ad vals0 rads0 nL K pc st l h
  unfold tk_hkO at h
  split at h
  · next l' hl' => cases h; exact hf mods ws0 s D cl Ad vals0 rads0 nL K pc st _ hl'
  · exact hg mods ws0 s D cl Ad vals0 rads0 nL K pc st l h
