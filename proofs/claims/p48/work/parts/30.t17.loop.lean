/-! ===== tk: methods with loops: cuts at heads, a measure that falls ===== -/
def tk_lx : List Nat → List Nat → Prop
  | a :: as, b :: bs => a < b ∨ (a ≤ b ∧ tk_lx as bs)
  | _, _ => False
theorem tk_lx_ind : ∀ (n : Nat) {P : List Nat → Prop}, (∀ l : List Nat, l.length = n → (∀ l' : List Nat, l'.length = n → tk_lx l' l → P l') → P l) → ∀ l : List Nat, l.length = n → P l := by
  intro n
  induction n with
  | zero =>
    intro P h l hl
    refine h l hl (fun l' hl' hx => ?_)
    have e : l' = [] := List.length_eq_zero_iff.mp hl'
    subst e
    exact hx.elim
  | succ n ih =>
    intro P h l hl
    have key : ∀ a : Nat, ∀ t : List Nat, t.length = n → P (a :: t) := by
      intro a
      induction a using Nat.strongRecOn with
      | ind a iha =>
        intro t ht
        refine ih (P := fun t => P (a :: t)) (fun t ht iht => ?_) t ht
        refine h (a :: t) (by rw [List.length_cons, ht]) (fun l' hl' hx => ?_)
        cases l' with
        | nil => exact hx.elim
        | cons a' t' =>
          have ht' : t'.length = n := by rw [List.length_cons] at hl'; omega
          rcases hx with hx | ⟨hx, hy⟩
          · exact iha a' hx t' ht'
          · rcases Nat.lt_or_ge a' a with hlt | hge
            · exact iha a' hlt t' ht'
            · have e : a' = a := Nat.le_antisymm hx hge
              subst e
              exact iht t' ht' hy
    cases l with
    | nil => cases hl
    | cons a t => exact key a t (by rw [List.length_cons] at hl; omega)
/-- a measure: 0: the value and a number; else a number less the value -/
abbrev tk_Me : Type := Nat × Int × tk_V
def tk_mz (vals : List Int) (m : tk_Me) : Int := match tk_num vals m.2.2 with
  | some x => if m.1 = 0 then x + m.2.1 else m.2.1 - x
  | none => 0
/-- not below 0, and less by d than the other one -/
def tk_mlt (w : tk_W) (a b : tk_Me) (d : Int) : Bool := cond (Nat.beq a.1 0) (Nat.beq b.1 0 && tk_le w.1 w.2 b.2.2 a.2.2 (b.2.1 - a.2.1 + d)) (!(Nat.beq b.1 0) && tk_le w.1 w.2 a.2.2 b.2.2 (b.2.1 - a.2.1 + d))
def tk_mnn (w : tk_W) (b : tk_Me) : Bool := match tk_iv w.1 b.2.2 with
  | some I => cond (Nat.beq b.1 0) (decide (0 ≤ I.1 + b.2.1)) (decide (0 ≤ b.2.1 - I.2))
  | none => false
theorem tk_mlt_ok {w : tk_W} {vals : List Int} {a b : tk_Me} {d x y : Int} (hH : tk_H w vals) (ha : tk_num vals a.2.2 = some x) (hb : tk_num vals b.2.2 = some y) (h : tk_mlt w a b d = true) : tk_mz vals b + d ≤ tk_mz vals a := by
  unfold tk_mlt at h
  unfold tk_mz
  rw [ha, hb]
  dsimp only
  cases h1 : Nat.beq a.1 0 with
  | true =>
    rw [h1] at h
    have h := (Bool.and_eq_true_iff.mp (show (Nat.beq b.1 0 && tk_le w.1 w.2 b.2.2 a.2.2 (b.2.1 - a.2.1 + d)) = true from h))
    have := tk_le_ok hH.1 hH.2 hb ha h.2
    rw [if_pos (Nat.eq_of_beq_eq_true h1), if_pos (Nat.eq_of_beq_eq_true h.1)]
    omega
  | false =>
    rw [h1] at h
    have h := (Bool.and_eq_true_iff.mp (show (!(Nat.beq b.1 0) && tk_le w.1 w.2 a.2.2 b.2.2 (b.2.1 - a.2.1 + d)) = true from h))
    have := tk_le_ok hH.1 hH.2 ha hb h.2
    have e1 : ¬ a.1 = 0 := fun z => by rw [z] at h1; cases h1
    have e2 : ¬ b.1 = 0 := fun z => by rw [z] at h; cases h.1
    rw [if_neg e1, if_neg e2]
    omega
theorem tk_mnn_ok {w : tk_W} {vals : List Int} {b : tk_Me} {y : Int} (hH : tk_H w vals) (hb : tk_num vals b.2.2 = some y) (h : tk_mnn w b = true) : 0 ≤ tk_mz vals b := by
  unfold tk_mnn at h
  unfold tk_mz
  rw [hb]
  dsimp only
  split at h
  · next I hI =>
    have := tk_iv_ok hH.1 hb hI
    cases h1 : Nat.beq b.1 0 with
    | true =>
      rw [h1] at h
      have h := of_decide_eq_true (show decide (0 ≤ I.1 + b.2.1) = true from h)
      rw [if_pos (Nat.eq_of_beq_eq_true h1)]
      omega
    | false =>
      rw [h1] at h
      have h := of_decide_eq_true (show decide (0 ≤ b.2.1 - I.2) = true from h)
      have e1 : ¬ b.1 = 0 := fun z => by rw [z] at h1; cases h1
      rw [if_neg e1]
      omega
  · cases h
/-- the measure falls, the first number first -/
def tk_fall (w : tk_W) (sg : List tk_V) : List tk_Me → List tk_Me → Bool
  | a :: as, b :: bs => match tk_tr sg b.2.2 with
    | some v => (tk_mlt w a (b.1, b.2.1, v) 1 && tk_mnn w (b.1, b.2.1, v)) || (tk_mlt w a (b.1, b.2.1, v) 0 && tk_fall w sg as bs)
    | none => false
  | _, _ => false
theorem tk_fall_ok {w : tk_W} {vals vB : List Int} {sg : List tk_V} (hH : tk_H w vals) (hs : rk_A2 (fun a x => tk_num vals a = some x) sg vB) : ∀ {as bs : List tk_Me}, (∀ a ∈ as, ∃ x, tk_num vals a.2.2 = some x) → tk_fall w sg as bs = true → tk_lx (bs.map (fun b => (tk_mz vB b).toNat)) (as.map (fun a => (tk_mz vals a).toNat)) := by
  intro as
  induction as with
  | nil => intro bs _ h; cases bs <;> cases h
  | cons a as ih =>
    intro bs hn h
    cases bs with
    | nil => cases h
    | cons b bs =>
      unfold tk_fall at h
      split at h
      · next v hv =>
        obtain ⟨x, hx⟩ := hn a List.mem_cons_self
        obtain ⟨k1, y, hy, hy'⟩ := tk_tr_num hs hv
        have e : tk_mz vB b = tk_mz vals (b.1, b.2.1, v) := by
          unfold tk_mz
          rw [hy]
          dsimp only
          rw [hy']
        show (tk_mz vB b).toNat < (tk_mz vals a).toNat ∨ ((tk_mz vB b).toNat ≤ (tk_mz vals a).toNat ∧ tk_lx (bs.map (fun b => (tk_mz vB b).toNat)) (as.map (fun a => (tk_mz vals a).toNat)))
        rw [e]
        rw [Bool.or_eq_true, Bool.and_eq_true, Bool.and_eq_true] at h
        rcases h with ⟨h1, h2⟩ | ⟨h1, h2⟩
        · have q1 := tk_mlt_ok (b := (b.1, b.2.1, v)) hH hx hy' h1
          have q2 := tk_mnn_ok (b := (b.1, b.2.1, v)) hH hy' h2
          left
          omega
        · have q1 := tk_mlt_ok (b := (b.1, b.2.1, v)) hH hx hy' h1
          right
          exact ⟨by omega, ih (fun z hz => hn z (List.mem_cons_of_mem _ hz)) h2⟩
      · cases h
/-- a head: its place, its template, its measure -/
abbrev tk_Hd : Type := Nat × List (Nat × tk_V) × tk_W × List Nat × tk_FA × List tk_Me
def tk_hst (h : tk_Hd) : tk_S := (h.2.1, [], h.2.2.1, h.2.2.2.1, h.2.2.2.2.1)
def tk_fin (w : tk_W) (rf : List Nat) (q : tk_SG) (wB : tk_W) (rfB : List Nat) : Bool := tk_fitE w.1 q.1 wB.1 && (tk_fitC w q.1 wB.2 && tk_fitR rf q.2 rfB)
/-- a state is an instance of a head's template, and the measure falls -/
def tk_hit (TY : tk_TT) (id : tk_SG) (src : Option (List tk_Me)) (h : tk_Hd) (st : tk_S) : Bool := match st.2.1 with
  | [] => (match tk_mlo st.2.2.1 st.1 id h.2.1 with
    | some q => (match tk_mf TY q st.2.2.1 st.2.2.2.1 st.2.2.2.2 h.2.2.2.2.1 with
      | some x => tk_fin x.2.1 x.2.2.1 x.1 h.2.2.1 h.2.2.2.1 && (match src with
        | some ms => tk_fall x.2.1 x.1.1 ms h.2.2.2.2.2
        | none => true)
      | none => false)
    | none => false)
  | _ => false
def tk_cutH (TY : tk_TT) (id : tk_SG) (src : Option (List tk_Me)) (Hs : List tk_Hd) : Nat → tk_S → Option Bool := fun pc st => cond (Hs.any (fun h => Nat.beq h.1 pc)) (some (Hs.any (fun h => Nat.beq h.1 pc && tk_hit TY id src h st))) none
/-- an end is one of the contract's -/
def tk_cov1 (TY : tk_TT) (id : tk_SG) (x y : tk_X) : Bool := match (match x.1, y.1 with
    | none, none => some id
    | some a, some b => tk_m1 x.2.1 id a b
    | _, _ => none) with
  | some q => (match tk_mf TY q x.2.1 x.2.2.1 x.2.2.2 y.2.2.2 with
    | some z => tk_fin z.2.1 z.2.2.1 z.1 y.2.1 y.2.2.1
    | none => false)
  | none => false
def tk_cov (TY : tk_TT) (id : tk_SG) (xs ys : List tk_X) : Bool := xs.all (fun x => ys.any (fun y => tk_cov1 TY id x y))
def tk_id (w : tk_W) (rf : List Nat) : tk_SG := (tk_nws 0 w.1, tk_nwr 0 rf)
theorem tk_id_ok {w : tk_W} {rf : List Nat} {vals : List Int} {rads : List Nat} {R : Nat → Nat → Prop} (hH : tk_H w vals) (h3 : rk_A2 R rf rads) : tk_sg vals rads (tk_id w rf) vals rads := by
  have h1 := tk_nws_ok (vals := []) hH.1
  have h2 := tk_nwr_ok (rads := []) h3
  exact ⟨h1, h2⟩
theorem tk_fin_ok {ads tw rads : List Nat} {w : tk_W} {rf : List Nat} {q : tk_SG} {wB : tk_W} {rfB : List Nat} {vals vB : List Int} {rB : List Nat} (hH : tk_H w vals) (h3 : rk_A2 (fun t y => tk_ty ads tw t y) rf rads) (hq : tk_sg vals rads q vB rB) (h : tk_fin w rf q wB rfB = true) : tk_H wB vB ∧ rk_A2 (fun t y => tk_ty ads tw t y) rfB rB := by
  unfold tk_fin at h
  rw [Bool.and_eq_true, Bool.and_eq_true] at h
  exact ⟨⟨tk_fitE_ok hH.1 hq.1 h.1, tk_fitC_ok hH hq.1 h.2.1⟩, tk_fitR_ok h3 hq.2 h.2.2⟩
theorem tk_MQ_imp {below : List Frame} {Q Q' : Array Value → State → Outcome → State → Prop} {a : Array Value} {s : State} {mc ms : Nat} {free : Addr → Prop} (h : ∀ o t, Q a s o t → Q' a s o t) : ∀ t, MQ below Q a s mc ms free t → MQ below Q' a s mc ms free t := by
  rintro t ⟨o, h1, h2, h3, h4⟩
  exact ⟨o, h1, h2, h _ _ h3, h4⟩
/-- refinements are sound -/
def tk_hkok (TY : tk_TT) (ro : Nat → Nat → Int → Prop) (X : va_W → Prop) (ads tw : List Nat) (hk : Nat → tk_S → Option (List tk_S)) : Prop := ∀ (mods : List (Nat × Nat)) (ws0 : va_W) (s : State) (D : va_G) (cl : List vw_C) (Ad : Nat → Prop) (vals0 : List Int) (rads0 : List Nat) (nL : Nat) (K : rk_K) (pc : Nat) (st : tk_S) (l : List tk_S), hk pc st = some l → (∀ st' ∈ l, tk_St K nL (tk_hr mods ws0 TY ro X ads tw s D cl Ad vals0 rads0) pc st') → tk_St K nL (tk_hr mods ws0 TY ro X ads tw s D cl Ad vals0 rads0) pc st
def tk_hk0 : Nat → tk_S → Option (List tk_S) := fun _ _ => none
theorem tk_hk0_ok {TY : tk_TT} {ro : Nat → Nat → Int → Prop} {X : va_W → Prop} {ads tw : List Nat} : tk_hkok TY ro X ads tw tk_hk0 := fun _ _ _ _ _ _ _ _ _ _ _ _ _ h => nomatch h
/-- a local number of few values is each of them, one by one -/
def tk_hsL {α : Type} (env : List tk_I) (a : tk_V) (mk : List tk_I → α) : Nat → Int → List α
  | 0, _ => []
  | n + 1, v => (match tk_cut env a v v with
    | some e => [mk e]
    | none => []) ++ tk_hsL env a mk n (v + 1)
theorem tk_hsL_ok {α : Type} {env : List tk_I} {vals : List Int} {a : tk_V} {x : Int} {mk : List tk_I → α} (hE : tk_E env vals) (hn : tk_num vals a = some x) : ∀ (n : Nat) (v : Int), v ≤ x → x < v + n → ∃ e, mk e ∈ tk_hsL env a mk n v ∧ tk_E e vals := by
  intro n
  induction n with
  | zero => intro v h1 h2; omega
  | succ n ih =>
    intro v h1 h2
    unfold tk_hsL
    by_cases e : v = x
    · subst e
      obtain ⟨e1, g1, g2⟩ := tk_cut_ok hE hn (Int.le_refl _) (Int.le_refl _)
      rw [g1]
      exact ⟨e1, List.mem_append_left _ (List.mem_singleton.mpr rfl), g2⟩
    · obtain ⟨e1, g1, g2⟩ := ih (v + 1) (by omega) (by omega)
      exact ⟨e1, List.mem_append_right _ g1, g2⟩
/-- differences narrow the bounds -/
def tk_tgt : List tk_Q → List tk_I → Option (List tk_I)
  | [], e => some e
  | q :: r, e => match e[q.1]?, e[q.2.1]? with
    | some I, some J => (match tk_cut e (0, q.1 + 1, 1, 0) I.1 (J.2 + q.2.2) with
      | some e' => tk_tgt r e'
      | none => none)
    | _, _ => tk_tgt r e
theorem tk_tgt_ok {vals : List Int} : ∀ {cs : List tk_Q} {e : List tk_I}, tk_E e vals → tk_C cs vals → ∃ e', tk_tgt cs e = some e' ∧ tk_E e' vals := by
  intro cs
  induction cs with
  | nil => intro e hE _; exact ⟨e, rfl, hE⟩
  | cons q r ih =>
    intro e hE hC
    have hr : tk_C r vals := fun z hz => hC z (List.mem_cons_of_mem _ hz)
    unfold tk_tgt
    split
    · next I J hI hJ =>
      obtain ⟨x, y, hx, hy, hxy⟩ := hC q List.mem_cons_self
      obtain ⟨x', hx', b1, b2⟩ := hE.get hI
      rw [hx] at hx'
      obtain rfl := Option.some.inj hx'
      obtain ⟨y', hy', b3, b4⟩ := hE.get hJ
      rw [hy] at hy'
      obtain rfl := Option.some.inj hy'
      have hn : tk_num vals (0, q.1 + 1, 1, 0) = some x := by
        show (match vals[q.1]? with
          | some z => some (((1 : Nat) : Int) * z + 0)
          | none => none) = some x
        rw [hx]
        show some (((1 : Nat) : Int) * x + 0) = some x
        congr 1
        omega
      obtain ⟨e1, g1, g2⟩ := tk_cut_ok (lo := I.1) (hi := J.2 + q.2.2) hE hn b1 (by omega)
      rw [g1]
      exact ih g2 hr
    · exact ih hE hr
/-- a local number of few values is each of them; else as it is -/
def tk_hs1 (lo : List (Nat × tk_V)) (i : Nat) (env : List tk_I) : List (List tk_I) := match tk_ld lo i with
  | some a => cond (Nat.beq a.1 0) (match tk_iv env a with
    | some I => if I.1 < I.2 ∧ I.2 - I.1 ≤ 300 then tk_hsL env a (fun e => e) (I.2 - I.1 + 1).toNat I.1 else [env]
    | none => [env]) [env]
  | none => [env]
theorem tk_hs1_ok {vals : List Int} {rads : List Nat} {lo : List (Nat × tk_V)} {lc : List (Nat × Value)} {i : Nat} {env : List tk_I} (hL : tk_Lo vals rads lo lc) (hE : tk_E env vals) : ∃ e ∈ tk_hs1 lo i env, tk_E e vals := by
  unfold tk_hs1
  split
  · next a ha =>
    cases hb : Nat.beq a.1 0 with
    | false => exact ⟨env, List.mem_singleton.mpr rfl, hE⟩
    | true =>
      dsimp only [cond]
      split
      · next I hI =>
        split
        · next hI2 =>
          obtain ⟨v, hv, hg⟩ := tk_ld_ok hL ha
          obtain ⟨x, rfl, hx⟩ := tk_g0 hg (Nat.eq_of_beq_eq_true hb)
          have b := tk_iv_ok hE hx hI
          obtain ⟨e1, g1, g2⟩ := tk_hsL_ok (mk := fun e => e) hE hx (I.2 - I.1 + 1).toNat I.1 (by omega) (by omega)
          exact ⟨e1, g1, g2⟩
        · exact ⟨env, List.mem_singleton.mpr rfl, hE⟩
      · exact ⟨env, List.mem_singleton.mpr rfl, hE⟩
  · exact ⟨env, List.mem_singleton.mpr rfl, hE⟩
def tk_hsP (lo : List (Nat × tk_V)) : List Nat → List tk_I → List (List tk_I)
  | [], e => [e]
  | i :: r, e => (tk_hs1 lo i e).flatMap (tk_hsP lo r)
theorem tk_hsP_ok {vals : List Int} {rads : List Nat} {lo : List (Nat × tk_V)} {lc : List (Nat × Value)} (hL : tk_Lo vals rads lo lc) : ∀ {r : List Nat} {env : List tk_I}, tk_E env vals → ∃ e ∈ tk_hsP lo r env, tk_E e vals := by
  intro r
  induction r with
  | nil => intro env hE; exact ⟨env, List.mem_singleton.mpr rfl, hE⟩
  | cons i r ih =>
    intro env hE
    obtain ⟨e1, g1, g2⟩ := tk_hs1_ok (i := i) hL hE
    obtain ⟨e2, g3, g4⟩ := ih g2
    exact ⟨e2, List.mem_flatMap.mpr ⟨e1, g1, g3⟩, g4⟩
def tk_hks (L : List (Nat × List Nat)) : Nat → tk_S → Option (List tk_S) := fun pc st => match L.find? (fun q => Nat.beq q.1 pc) with
  | some q => some ((tk_hsP st.1 q.2 st.2.2.1.1).filterMap (fun e => match tk_tgt st.2.2.1.2 e with
    | some e' => some (st.1, st.2.1, (e', st.2.2.1.2), st.2.2.2)
    | none => none))
  | none => none
theorem tk_hks_ok {TY : tk_TT} {ro : Nat → Nat → Int → Prop} {X : va_W → Prop} {ads tw : List Nat} (L : List (Nat × List Nat)) : tk_hkok TY ro X ads tw (tk_hks L) := by
  intro mods ws0 s D cl Ad vals0 rads0 nL K pc st l h kk
  intro vals rads H locs ls stk lc hH hR hl hL hS
  unfold tk_hks at h
  split at h
  · next q hq =>
    cases h
    obtain ⟨e1, g1, g2⟩ := tk_hsP_ok hL (r := q.2) hH.1
    obtain ⟨e2, g3, g4⟩ := tk_tgt_ok g2 hH.2
    exact kk (st.1, st.2.1, (e2, st.2.2.1.2), st.2.2.2) (List.mem_filterMap.mpr ⟨e1, g1, by rw [g3]⟩) vals rads H locs ls stk lc ⟨g4, hH.2⟩ hR hl hL hS
  · cases h
section TKL
variable {p : Program} {l : Launch} {e : Env} {R : Room} {s : State} {m : MethodId} {args : Array Value} {below : List Frame} {meth : Method} {c : Code} {cc : ByteArray} {D : va_G} {cl : List vw_C} {Ad : Nat → Prop} {nL : Nat} {vals0 : List Int} {rads0 : List Nat}
variable {mods : List (Nat × Nat)} {ws0 : va_W} {tbl xw : List Jvm.Cond} {fty : rk_F} {cln : List String} {MN : List rk_N} {mci : List Nat} {P : List rk_M2} {own : String} {xt : tk_XT} {TY : tk_TT} {ro : Nat → Nat → Int → Prop} {X : va_W → Prop} {ads tw : List Nat}
theorem tk_St_imp {Q Q' : State → Prop} {Hr : tk_Hr} {pc : Nat} {st : tk_S} (hQ : ∀ t, Q t → Q' t) (h : tk_St (rk_KW p l e R s m args below meth c Q) nL Hr pc st) : tk_St (rk_KW p l e R s m args below meth c Q') nL Hr pc st := by
  intro vals rads H locs ls stk lc h1 h2 h3 h4 h5 T hT X
  obtain ⟨t, a, b⟩ := h vals rads H locs ls stk lc h1 h2 h3 h4 h5 T hT X
  exact ⟨t, a, hQ t b⟩
theorem tk_cov_post {w0 : tk_W} {rf0 : List Nat} (hH0 : tk_H w0 vals0) (h30 : rk_A2 (fun t y => tk_ty ads tw t y) rf0 rads0) {x : tk_X} {ys : List tk_X} {y : tk_X} (hy : y ∈ ys) (h : tk_cov1 TY (tk_id w0 rf0) x y = true) {l1 : List Int} {r1 : List Nat} {a : Array Value} {st : State} {oc : Outcome} {t : State} (hp : tk_Post D cl TY ro X ads tw ([x], mods) (vals0 ++ l1) (rads0 ++ r1) ws0 Ad a st oc t) : tk_Post D cl TY ro X ads tw (ys, mods) vals0 rads0 ws0 Ad a st oc t := by
  obtain ⟨⟨x', hx, vals', rads', ws', ⟨k1, rfl⟩, ⟨k2, rfl⟩, b3, b4, b5, b6, b7, b8, b9, b10, b11⟩, hF⟩ := hp
  refine ⟨?_, hF⟩
  obtain rfl := List.mem_singleton.mp hx
  have hid : tk_sg ((vals0 ++ l1) ++ k1) ((rads0 ++ r1) ++ k2) (tk_id w0 rf0) vals0 rads0 := by
    rw [List.append_assoc, List.append_assoc]
    exact tk_sg_grow _ _ (tk_id_ok hH0 h30)
  unfold tk_cov1 at h
  split at h
  · next q hq =>
    split at h
    · next z hz =>
      have hret : ∃ (l2 : List Int) (r2 : List Nat), tk_sg ((vals0 ++ l1) ++ k1) ((rads0 ++ r1) ++ k2) q (vals0 ++ l2) (rads0 ++ r2) ∧ tk_ret y.1 (vals0 ++ l2) (rads0 ++ r2) oc := by
        unfold tk_ret at b11
        split at hq
        · next e1 e2 =>
          obtain rfl := Option.some.inj hq
          rw [e1] at b11
          refine ⟨[], [], by rw [List.append_nil, List.append_nil]; exact hid, ?_⟩
          rw [e2]
          exact b11
        · next a0 b0 e1 e2 =>
          rw [e1] at b11
          obtain ⟨v, hv, hoc⟩ := b11
          obtain ⟨l2, r2, g1, g2⟩ := tk_m1_ok b3 hid hv hq
          refine ⟨l2, r2, g1, ?_⟩
          rw [e2]
          exact ⟨v, g2, hoc⟩
        · cases hq
      obtain ⟨l2, r2, g1, g2⟩ := hret
      obtain ⟨l3, r3, lB, rB', m1, m2, m3, m4, m5⟩ := tk_mf_ok (tk_ob_of b5 b6) b3 b4 b9 g1 hz
      obtain ⟨f1, f2⟩ := tk_fin_ok m1 m2 m4 h
      refine ⟨y, hy, _, _, ws', ⟨l2 ++ lB, by rw [← List.append_assoc]⟩, ⟨r2 ++ rB', by rw [← List.append_assoc]⟩, f1, f2, b5, b6, b7, b8, m5, b10, ?_⟩
      unfold tk_ret at g2 ⊢
      split at g2
      · exact g2
      · obtain ⟨v, hv, hoc⟩ := g2
        exact ⟨v, tk_g_grow lB rB' hv, hoc⟩
    · cases h
  · cases h
theorem tk_step0 (hXs : tk_xs TY X ads tw) (hxt : tk_xtok xt) (hXt : xt Ad s s.heap) (hok : rk_ok tbl xw cl fty cln MN mci P) (hx : p.tables.exec = Jvm.exec) (hb : c.code = cc) {M : rk_M2} (hml : c.maxLocals = M.2.1) (hins : ∀ r ∈ M.1, decode cc r.1 = .ok r.2) (hF : rk_Fr s m args meth D cl Ad tbl xw fty cln own M.2.2.1 M.2.2.2.1) (hck : ∀ r ∈ M.2.2.1, rk_cok tbl xw MN P own r) (hkk : ∀ r ∈ M.2.2.1, rk_kok tbl own r) {d : Nat} {call : tk_Ca} (hcall : tk_SC l D cl tbl xw xt MN P TY ro X ads tw d call) (hfr : d + 1 ≤ R.frames) (hlo : 40 * (d + 1) ≤ R.locals) {Q : State → Prop} {q : Nat × tk_S} {li : List (Nat × tk_S)} (h : tk_go1 (tk_fun mods TY fty mci call M) M.2.2.2.2.1 M.1 q = some (.inr li)) (hk : ∀ z ∈ li, tk_St (rk_KW p l e R s m args below meth c Q) M.2.1 (tk_hr mods ws0 TY ro X ads tw s D cl Ad vals0 rads0) z.1 z.2) : tk_St (rk_KW p l e R s m args below meth c Q) M.2.1 (tk_hr mods ws0 TY ro X ads tw s D cl Ad vals0 rads0) q.1 q.2 := by
  obtain ⟨ins, len, F, g1, g2, g3, g4⟩ := tk_go1_r h
  have hdg : decode cc q.1 = .ok (ins, len) := hins (q.1, ins, len) g1
  exact tk_fun_ok hXs (pc := q.1) (ins := ins) (len := len) (F := F) (st := q.2) (res := li) hxt hXt hok hx hb hml hF hck hkk hcall hfr hlo hdg g2 g3 g4 hk
theorem tk_stepC {hk : Nat → tk_S → Option (List tk_S)} (hhk : tk_hkok TY ro X ads tw hk) (hXs : tk_xs TY X ads tw) (hxt : tk_xtok xt) (hXt : xt Ad s s.heap) (hok : rk_ok tbl xw cl fty cln MN mci P) (hx : p.tables.exec = Jvm.exec) (hb : c.code = cc) {M : rk_M2} (hml : c.maxLocals = M.2.1) (hins : ∀ r ∈ M.1, decode cc r.1 = .ok r.2) (hF : rk_Fr s m args meth D cl Ad tbl xw fty cln own M.2.2.1 M.2.2.2.1) (hck : ∀ r ∈ M.2.2.1, rk_cok tbl xw MN P own r) (hkk : ∀ r ∈ M.2.2.1, rk_kok tbl own r) {d : Nat} {call : tk_Ca} (hcall : tk_SC l D cl tbl xw xt MN P TY ro X ads tw d call) (hfr : d + 1 ≤ R.frames) (hlo : 40 * (d + 1) ≤ R.locals) {Q : State → Prop} {q : Nat × tk_S} {li : List (Nat × tk_S)} (h : tk_go1H hk (tk_fun mods TY fty mci call M) M.2.2.2.2.1 M.1 q = some (.inr li)) (hk : ∀ z ∈ li, tk_St (rk_KW p l e R s m args below meth c Q) M.2.1 (tk_hr mods ws0 TY ro X ads tw s D cl Ad vals0 rads0) z.1 z.2) : tk_St (rk_KW p l e R s m args below meth c Q) M.2.1 (tk_hr mods ws0 TY ro X ads tw s D cl Ad vals0 rads0) q.1 q.2 := by
  unfold tk_go1H at h
  split at h
  · exact tk_step0 hXs hxt hXt hok hx hb hml hins hF hck hkk hcall hfr hlo h hk
  · next l0 hl0 =>
    split at h
    · next r0 hr0 =>
      cases h
      refine hhk _ _ _ _ _ _ _ _ _ _ _ _ _ hl0 (fun st' hst' => ?_)
      obtain ⟨l1, g1, g2⟩ := tk_goL_mem hr0 hst'
      exact tk_step0 (q := (q.1, st')) hXs hxt hXt hok hx hb hml hins hF hck hkk hcall hfr hlo g1 (fun z hz => hk z (g2 z hz))
    · cases h
theorem tk_goH_l {hk : Nat → tk_S → Option (List tk_S)} {fn : Nat → Instr → Option tk_Fn} {ret : Option FieldType} {ml : List (Nat × Instr × Nat)} {q : Nat × tk_S} {x : tk_X} (h : tk_go1H hk fn ret ml q = some (.inl x)) : tk_go1 fn ret ml q = some (.inl x) := by
  unfold tk_go1H at h
  split at h
  · exact h
  · split at h
    · cases h
    · cases h
theorem tk_runC {hk : Nat → tk_S → Option (List tk_S)} (hhk : tk_hkok TY ro X ads tw hk) (hXs : tk_xs TY X ads tw) (hxt : tk_xtok xt) (hXt : xt Ad s s.heap) (hok : rk_ok tbl xw cl fty cln MN mci P) (hx : p.tables.exec = Jvm.exec) (hb : c.code = cc) (hlocks : meth.locks = false) {M : rk_M2} (hr : meth.sig.returnType = M.2.2.2.2.1) (hml : c.maxLocals = M.2.1) (hins : ∀ r ∈ M.1, decode cc r.1 = .ok r.2) (hF : rk_Fr s m args meth D cl Ad tbl xw fty cln own M.2.2.1 M.2.2.2.1) (hck : ∀ r ∈ M.2.2.1, rk_cok tbl xw MN P own r) (hkk : ∀ r ∈ M.2.2.1, rk_kok tbl own r) {d : Nat} {call : tk_Ca} (hcall : tk_SC l D cl tbl xw xt MN P TY ro X ads tw d call) (hfr : d + 1 ≤ R.frames) (hlo : 40 * (d + 1) ≤ R.locals)
    {w0 : tk_W} {rf0 : List Nat} (hH0 : tk_H w0 vals0) (h30 : rk_A2 (fun t y => tk_ty ads tw t y) rf0 rads0) {l1 : List Int} {r1 : List Nat} {ys : List tk_X} {cut : Nat → tk_S → Option Bool} (hcut : ∀ pc st, cut pc st = some true → tk_St (rk_KW p l e R s m args below meth c (MQ below (tk_Post D cl TY ro X ads tw (ys, mods) vals0 rads0 ws0 Ad) args s R.cells R.slots Ad)) M.2.1 (tk_hr mods ws0 TY ro X ads tw s D cl Ad (vals0 ++ l1) (rads0 ++ r1)) pc st) {fuel : Nat} {work : List (Nat × tk_S)} {xs : List tk_X} (h : tk_loop (tk_go1H hk (tk_fun mods TY fty mci call M) M.2.2.2.2.1 M.1) cut fuel work [] = some xs) (hX : tk_cov TY (tk_id w0 rf0) xs ys = true) : ∀ q ∈ work, tk_St (rk_KW p l e R s m args below meth c (MQ below (tk_Post D cl TY ro X ads tw (ys, mods) vals0 rads0 ws0 Ad) args s R.cells R.slots Ad)) M.2.1 (tk_hr mods ws0 TY ro X ads tw s D cl Ad (vals0 ++ l1) (rads0 ++ r1)) q.1 q.2 := by
  refine (tk_loop_ok (W := fun pc st => tk_St (rk_KW p l e R s m args below meth c (MQ below (tk_Post D cl TY ro X ads tw (ys, mods) vals0 rads0 ws0 Ad) args s R.cells R.slots Ad)) M.2.1 (tk_hr mods ws0 TY ro X ads tw s D cl Ad (vals0 ++ l1) (rads0 ++ r1)) pc st) (XS := xs) hcut ?_ ?_ fuel work [] xs h (fun _ z => z)).2
  · intro z x hz hX2
    obtain ⟨ins, len, g1, g2, g3⟩ := tk_go1_l (tk_goH_l hz)
    have hdg : decode cc z.1 = .ok (ins, len) := hins (z.1, ins, len) g1
    obtain ⟨y, hy, hc⟩ := List.any_eq_true.mp (List.all_eq_true.mp hX x hX2)
    exact tk_St_imp (tk_MQ_imp (fun o t hp => tk_cov_post hH0 h30 hy hc hp)) (tk_end_ok (XS := [x]) (pc := z.1) (ins := ins) (len := len) (st := z.2) (x := x) hx hb hlocks hr hdg g2 g3 (List.mem_singleton.mpr rfl))
  · intro z li hz hk
    exact tk_stepC hhk hXs hxt hXt hok hx hb hml hins hF hck hkk hcall hfr hlo hz hk
/-- a state that is an instance of a head's template -/
theorem tk_hit_ok {w0 : tk_W} {rf0 : List Nat} (hH0 : tk_H w0 vals0) (h30 : rk_A2 (fun t y => tk_ty ads tw t y) rf0 rads0) {l1 : List Int} {r1 : List Nat} {K : rk_K} {src : Option (List tk_Me)} {h : tk_Hd} {pc : Nat} {st : tk_S} (hh : tk_hit TY (tk_id w0 rf0) src h st = true) (hsrc : ∀ ms, src = some ms → ∀ a ∈ ms, ∃ x, tk_num (vals0 ++ l1) a.2.2 = some x)
    (kk : ∀ (vals : List Int) (rads : List Nat) (H : Heap) (locs : List Loc) (ls : Array Slot) (stk : List Value) (lc : List (Nat × Value)), (∀ ms, src = some ms → tk_lx (h.2.2.2.2.2.map (fun b => (tk_mz vals b).toNat)) (ms.map (fun a => (tk_mz (vals0 ++ l1) a).toNat))) → tk_H h.2.2.1 vals → tk_hr mods ws0 TY ro X ads tw s D cl Ad vals0 rads0 vals rads H locs h.2.2.2.1 h.2.2.2.2.1 → lv_has ls nL lc → tk_Lo vals rads h.2.1 lc → rk_A2 (tk_g vals rads) [] stk → K pc ls stk H locs 0 0) : tk_St K nL (tk_hr mods ws0 TY ro X ads tw s D cl Ad (vals0 ++ l1) (rads0 ++ r1)) pc st := by
  obtain ⟨lo, sk, w, rf, fa⟩ := st
  intro vals rads H locs ls stk lc hH hR hl hL hS
  dsimp only at hH hR hL hS
  unfold tk_hit at hh
  dsimp only at hh
  split at hh
  · split at hh
    · next q hq =>
      split at hh
      · next x hx =>
        rw [Bool.and_eq_true] at hh
        obtain ⟨hh1, hh2⟩ := hh
        obtain ⟨⟨kv, rfl⟩, ⟨kr, rfl⟩, h3, ws, h4, h5, h6, h7, h8, hun, h9⟩ := hR
        have hid : tk_sg ((vals0 ++ l1) ++ kv) ((rads0 ++ r1) ++ kr) (tk_id w0 rf0) vals0 rads0 := by
          rw [List.append_assoc, List.append_assoc]
          exact tk_sg_grow _ _ (tk_id_ok hH0 h30)
        obtain ⟨l2, r2, lcB, g1, g2, g3⟩ := tk_mlo_ok hH hL hid hq
        obtain ⟨l3, r3, lB, rB', m1, m2, m3, m4, m5⟩ := tk_mf_ok (tk_ob_of h4 h5) hH h3 h9 g1 hx
        obtain ⟨f1, f2⟩ := tk_fin_ok m1 m2 m4 hh1
        refine kk ((vals0 ++ l2) ++ lB) ((rads0 ++ r2) ++ rB') H locs ls stk lcB ?_ f1 ⟨⟨l2 ++ lB, by rw [List.append_assoc]⟩, ⟨r2 ++ rB', by rw [List.append_assoc]⟩, f2, ws, h4, h5, h6, h7, h8, hun, m5⟩ ⟨hl.1, hl.2.1, fun z hz => hl.2.2 z (g3 z hz)⟩ (g2.grow lB rB') ?_
        · intro ms hms
          rw [hms] at hh2
          have hn := hsrc ms hms
          have := tk_fall_ok m1 m4.1 (as := ms) (fun a ha => by
            obtain ⟨x, hx⟩ := hn a ha
            exact ⟨x, tk_num_grow l3 (tk_num_grow kv hx)⟩) hh2
          have e : ms.map (fun a => (tk_mz ((vals0 ++ l1) ++ kv ++ l3) a).toNat) = ms.map (fun a => (tk_mz (vals0 ++ l1) a).toNat) := by
            refine List.map_congr_left (fun a ha => ?_)
            obtain ⟨x, hx⟩ := hn a ha
            unfold tk_mz
            rw [hx, tk_num_grow l3 (tk_num_grow kv hx)]
          rw [← e]
          exact this
        · rw [hS.nil]
          trivial
      · cases hh
    · cases hh
  · cases hh
end TKL
