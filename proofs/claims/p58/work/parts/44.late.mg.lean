section MH40_0
section GCL
variable {l : Launch} {D : va_G} {xt : tk_XT} {ro : Nat → Nat → Int → Prop} {ads tw : List Nat}
/-- GooseIce.tales -/
def gc_K61 : tk_K := (136, [(2, 0, 0, 0), (0, 1, 1, 0)], ([((-2147483648), 2147483647)], []), [0], [], ([(some (0, 2, 1, 0), ([((-2147483648), 2147483647), ((-1), 30), (0, 9)], []), [0], [(0, (0, 0, 0, 0), (0, 3, 1, 0))])], [(0, 0), (6, 2), (6, 3), (6, 4), (6, 5), (6, 6), (6, 7), (6, 8), (6, 9), (6, 10), (6, 11), (10, 2), (11, 0), (31, 6), (31, 7), (32, 0), (33, 0), (34, 0), (35, 0), (36, 0), (37, 0), (57, 6), (57, 7), (58, 0), (59, 0), (60, 0), (61, 0), (62, 0), (63, 0)]))
def gc_H61 : List tk_Hd := []
theorem gc_61 (hU : gc_U tw) (hxt : tk_xtok xt) : tk_KS l D gk_cl gk_tbl gk_xw xt gk_MN gk_P gc_TY ro (gc_X tw) ads tw 13 gc_K61 := tk_contract (hk := tk_hk0) tk_hk0_ok (gc_xs hU) hxt gk_rok [102, 186, 187] 9000 1 0 (Ks := [gc_K12, gc_K59, gc_K60]) (d := 11) (List.forall_mem_cons.mpr ⟨tk_KS_up (by decide) (gc_12 hU hxt), (List.forall_mem_cons.mpr ⟨tk_KS_up (by decide) (gc_59 hU hxt), (List.forall_mem_cons.mpr ⟨tk_KS_up (by decide) (gc_60 hU hxt), (fun _ h => absurd h List.not_mem_nil)⟩)⟩)⟩) (Hs := gc_H61) (by decide +kernel) rfl
/-- GooseIce.mark -/
def gc_K317 : tk_K := (184, [(2, 0, 0, 0)], ([], []), [0], [], ([(some (0, 1, 1, 0), ([((-1), 3), (1, 3), (0, 4)], []), [0], [(0, (0, 0, 0, 13), (0, 2, 1, 0)), (0, (0, 0, 0, 0), (0, 3, 1, 0))])], [(0, 0), (0, 13), (65, 8), (65, 9), (65, 10), (65, 11), (65, 12), (65, 13), (66, 0), (67, 0), (68, 0), (69, 0), (71, 4), (71, 5), (72, 0), (73, 0), (74, 0), (75, 0), (76, 7), (76, 8), (76, 9), (77, 0), (78, 0), (79, 0), (80, 0), (81, 0), (82, 0), (83, 0), (84, 6), (84, 7), (85, 0), (86, 0), (87, 0), (88, 0), (89, 0), (90, 0)]))
def gc_H317 : List tk_Hd := []
theorem gc_317 (hU : gc_U tw) (hxt : tk_xtok xt) : tk_KS l D gk_cl gk_tbl gk_xw xt gk_MN gk_P gc_TY ro (gc_X tw) ads tw 4 gc_K317 := tk_contract (hk := tk_hk0) tk_hk0_ok (gc_xs hU) hxt gk_rok [186, 187] 9000 1 0 (Ks := [gc_K315, gc_K316]) (d := 2) (List.forall_mem_cons.mpr ⟨tk_KS_up (by decide) (gc_315 hU hxt), (List.forall_mem_cons.mpr ⟨tk_KS_up (by decide) (gc_316 hU hxt), (fun _ h => absurd h List.not_mem_nil)⟩)⟩) (Hs := gc_H317) (by decide +kernel) rfl
/-- GooseIce.undo -/
def gc_K322 : tk_K := (185, [(2, 0, 0, 0)], ([], []), [0], [], ([(some (0, 1, 1, 0), ([((-1), 2), (0, 6)], []), [0], [(0, (0, 0, 0, 0), (0, 2, 1, 0))])], [(0, 0), (0, 13), (12, 8), (12, 9), (12, 10), (12, 11), (12, 12), (12, 13), (13, 0), (14, 0), (15, 0), (16, 0), (18, 4), (18, 5), (19, 0), (20, 0), (21, 0), (22, 0), (23, 7), (23, 8), (23, 9), (24, 0), (25, 0), (26, 0), (27, 0), (28, 0), (29, 0), (30, 0), (31, 6), (31, 7), (32, 0), (33, 0), (34, 0), (35, 0), (36, 0), (37, 0)]))
def gc_H322 : List tk_Hd := []
theorem gc_322 (hU : gc_U tw) (hxt : tk_xtok xt) : tk_KS l D gk_cl gk_tbl gk_xw xt gk_MN gk_P gc_TY ro (gc_X tw) ads tw 4 gc_K322 := tk_contract (hk := tk_hk0) tk_hk0_ok (gc_xs hU) hxt gk_rok [186, 187] 9000 1 0 (Ks := [gc_K320, gc_K321]) (d := 2) (List.forall_mem_cons.mpr ⟨tk_KS_up (by decide) (gc_320 hU hxt), (List.forall_mem_cons.mpr ⟨tk_KS_up (by decide) (gc_321 hU hxt), (fun _ h => absurd h List.not_mem_nil)⟩)⟩) (Hs := gc_H322) (by decide +kernel) rfl
end GCL
end MH40_0
section MH40_1
/-! ===== tk: refinements: a number is told apart at thresholds ===== -/
/-- where (0 a local, 1 a place of the stack), which; how (0 each value up to c, 1 at c less local j, else the list) -/
abbrev tk_Op : Type := (Nat × Nat) × Nat × Int × Nat × List Int
def tk_thr (a : tk_V) : List Int → List tk_I → List (List tk_I)
  | [], env => [env]
  | t :: ts, env => match tk_iv env a with
    | none => [env]
    | some I => (tk_cut env a I.1 t).toList ++ (match tk_cut env a (t + 1) I.2 with
      | some e => tk_thr a ts e
      | none => [])
theorem tk_thr_ok {vals : List Int} {a : tk_V} {x : Int} (hn : tk_num vals a = some x) : ∀ {ts : List Int} {env : List tk_I}, tk_E env vals → ∃ e ∈ tk_thr a ts env, tk_E e vals := by
  intro ts
  induction ts with
  | nil => intro env hE; exact ⟨env, List.mem_singleton.mpr rfl, hE⟩
  | cons t ts ih =>
    intro env hE
    unfold tk_thr
    split
    · exact ⟨env, List.mem_singleton.mpr rfl, hE⟩
    · next I hI =>
      have b := tk_iv_ok hE hn hI
      by_cases h : x ≤ t
      · obtain ⟨e, g1, g2⟩ := tk_cut_ok (lo := I.1) (hi := t) hE hn b.1 h
        exact ⟨e, List.mem_append_left _ (tk_toL g1), g2⟩
      · obtain ⟨e, g1, g2⟩ := tk_cut_ok (lo := t + 1) (hi := I.2) hE hn (by omega) b.2
        obtain ⟨e2, g3, g4⟩ := ih g2
        refine ⟨e2, List.mem_append_right _ ?_, g4⟩
        rw [g1]
        exact g3
def tk_ths (lo : List (Nat × tk_V)) (env : List tk_I) (I : tk_I) (op : tk_Op) : List Int := match op.2.1 with
  | 0 => if min I.2 (op.2.2.1 + 1) - I.1 ≤ 400 then (List.range (min I.2 (op.2.2.1 + 1) - I.1).toNat).map (fun (k : Nat) => I.1 + (k : Int)) else []
  | 1 => (match tk_ld lo op.2.2.2.1 with
    | some b => (match tk_iv env b with
      | some J => if J.1 = J.2 then [op.2.2.1 - J.1] else []
      | none => [])
    | none => [])
  | _ => op.2.2.2.2
abbrev tk_SE : Type := List tk_V × List tk_I
def tk_rop (lo : List (Nat × tk_V)) (op : tk_Op) (z : tk_SE) : List tk_SE := match op.1.1 with
  | 0 => (match tk_ld lo op.1.2 with
    | some a => cond (Nat.ble a.1 1) (match tk_iv z.2 a with
      | some I => (tk_thr a (tk_ths lo z.2 I op) z.2).map (fun e => (z.1, e))
      | none => [z]) [z]
    | none => [z])
  | _ => (match z.1[op.1.2]? with
    | some a => cond (Nat.ble a.1 1) (match tk_iv z.2 a with
      | some I => (tk_thr a (tk_ths lo z.2 I op) z.2).map (fun e => (z.1.set op.1.2 (tk_nm e a), e))
      | none => [z]) [z]
    | none => [z])
theorem tk_A2_setL {α β : Type} {R : α → β → Prop} {a : α} : ∀ {l : List α} {l' : List β} {i : Nat}, rk_A2 R l l' → (∀ b, l'[i]? = some b → R a b) → rk_A2 R (l.set i a) l' := by
  intro l
  induction l with
  | nil => intro l' i h _; exact h
  | cons x l ih =>
    intro l' i h hr
    cases l' with
    | nil => exact h.elim
    | cons y l' =>
      cases i with
      | zero => exact ⟨hr y rfl, h.2⟩
      | succ i => exact ⟨h.1, ih h.2 (fun b hb => hr b hb)⟩
theorem tk_rop_ok {vals : List Int} {rads : List Nat} {lo : List (Nat × tk_V)} {lc : List (Nat × Value)} {stk : List Value} {op : tk_Op} {z : tk_SE} (hL : tk_Lo vals rads lo lc) (hE : tk_E z.2 vals) (hS : rk_A2 (tk_g vals rads) z.1 stk) : ∃ y ∈ tk_rop lo op z, tk_E y.2 vals ∧ rk_A2 (tk_g vals rads) y.1 stk := by
  have hz : ∃ y ∈ [z], tk_E y.2 vals ∧ rk_A2 (tk_g vals rads) y.1 stk := ⟨z, List.mem_singleton.mpr rfl, hE, hS⟩
  unfold tk_rop
  split
  · split
    · next a ha =>
      cases hb : Nat.ble a.1 1 with
      | false => exact hz
      | true =>
        dsimp only [cond]
        split
        · next I hI =>
          obtain ⟨v, -, hg⟩ := tk_ld_ok hL ha
          obtain ⟨x, hx, -⟩ := tk_gnum (Nat.le_of_ble_eq_true hb) hg
          obtain ⟨e, g1, g2⟩ := tk_thr_ok hx (ts := tk_ths lo z.2 I op) hE
          exact ⟨_, List.mem_map.mpr ⟨e, g1, rfl⟩, g2, hS⟩
        · exact hz
    · exact hz
  · split
    · next a ha =>
      cases hb : Nat.ble a.1 1 with
      | false => exact hz
      | true =>
        dsimp only [cond]
        split
        · next I hI =>
          obtain ⟨v, hv, hg⟩ := hS.get ha
          obtain ⟨x, hx, -⟩ := tk_gnum (Nat.le_of_ble_eq_true hb) hg
          obtain ⟨e, g1, g2⟩ := tk_thr_ok hx (ts := tk_ths lo z.2 I op) hE
          refine ⟨_, List.mem_map.mpr ⟨e, g1, rfl⟩, g2, tk_A2_setL hS (fun b hb2 => ?_)⟩
          rw [hv] at hb2
          cases hb2
          exact tk_nm_ok g2 hg
        · exact hz
    · exact hz
def tk_rops (lo : List (Nat × tk_V)) : List tk_Op → tk_SE → List tk_SE
  | [], z => [z]
  | op :: r, z => (tk_rop lo op z).flatMap (tk_rops lo r)
theorem tk_rops_ok {vals : List Int} {rads : List Nat} {lo : List (Nat × tk_V)} {lc : List (Nat × Value)} {stk : List Value} (hL : tk_Lo vals rads lo lc) : ∀ {ops : List tk_Op} {z : tk_SE}, tk_E z.2 vals → rk_A2 (tk_g vals rads) z.1 stk → ∃ y ∈ tk_rops lo ops z, tk_E y.2 vals ∧ rk_A2 (tk_g vals rads) y.1 stk := by
  intro ops
  induction ops with
  | nil => intro z hE hS; exact ⟨z, List.mem_singleton.mpr rfl, hE, hS⟩
  | cons op r ih =>
    intro z hE hS
    obtain ⟨y, g1, g2, g3⟩ := tk_rop_ok (op := op) hL hE hS
    obtain ⟨y2, g4, g5, g6⟩ := ih g2 g3
    exact ⟨y2, List.mem_flatMap.mpr ⟨y, g1, g4⟩, g5, g6⟩
/-- differences narrow both bounds -/
def tk_tg2 : List tk_Q → List tk_I → Option (List tk_I)
  | [], e => some e
  | q :: r, e => match e[q.1]?, e[q.2.1]? with
    | some I, some J => (match tk_cut e (0, q.1 + 1, 1, 0) I.1 (J.2 + q.2.2) with
      | some e1 => (match tk_cut e1 (0, q.2.1 + 1, 1, 0) (I.1 - q.2.2) J.2 with
        | some e2 => tk_tg2 r e2
        | none => none)
      | none => none)
    | _, _ => tk_tg2 r e
theorem tk_tg2_ok {vals : List Int} : ∀ {cs : List tk_Q} {e : List tk_I}, tk_E e vals → tk_C cs vals → ∃ e', tk_tg2 cs e = some e' ∧ tk_E e' vals := by
  intro cs
  induction cs with
  | nil => intro e hE _; exact ⟨e, rfl, hE⟩
  | cons q r ih =>
    intro e hE hC
    have hr : tk_C r vals := fun z hz => hC z (List.mem_cons_of_mem _ hz)
    unfold tk_tg2
    split
    · next I J hI hJ =>
      obtain ⟨x, y, hx, hy, hxy⟩ := hC q List.mem_cons_self
      obtain ⟨x', hx', b1, b2⟩ := hE.get hI
      rw [hx] at hx'
      obtain rfl := Option.some.inj hx'
      obtain ⟨y', hy', b3, b4⟩ := hE.get hJ
      rw [hy] at hy'
      obtain rfl := Option.some.inj hy'
      have hn : ∀ (k : Nat) (x : Int), vals[k]? = some x → tk_num vals (0, k + 1, 1, 0) = some x := fun k x hk => by
        show (match vals[k]? with
          | some z => some (((1 : Nat) : Int) * z + 0)
          | none => none) = some x
        rw [hk]
        show some (((1 : Nat) : Int) * x + 0) = some x
        congr 1
        omega
      obtain ⟨e1, g1, g2⟩ := tk_cut_ok (lo := I.1) (hi := J.2 + q.2.2) hE (hn _ _ hx) b1 (by omega)
      obtain ⟨e2, g3, g4⟩ := tk_cut_ok (lo := I.1 - q.2.2) (hi := J.2) g2 (hn _ _ hy) (by omega) b4
      rw [g1]
      dsimp only
      rw [g3]
      exact ih g4 hr
    · exact ih hE hr
def tk_hkR (L : List (Nat × List tk_Op)) : Nat → tk_S → Option (List tk_S) := fun pc st => match L.find? (fun q => Nat.beq q.1 pc) with
  | some q => some ((tk_rops st.1 q.2 (st.2.1, st.2.2.1.1)).filterMap (fun z => match tk_tg2 st.2.2.1.2 z.2 with
    | some e' => some (st.1, z.1, (e', st.2.2.1.2), st.2.2.2)
    | none => none))
  | none => none
theorem tk_hkR_ok {TY : tk_TT} {ro : Nat → Nat → Int → Prop} {X : va_W → Prop} {ads tw : List Nat} (L : List (Nat × List tk_Op)) : tk_hkok TY ro X ads tw (tk_hkR L) := by
  intro mods ws0 s D cl Ad vals0 rads0 nL K pc st l h kk
  intro vals rads H locs ls stk lc hH hR hl hL hS
  unfold tk_hkR at h
  split at h
  · next q hq =>
    cases h
    obtain ⟨y, g1, g2, g5⟩ := tk_rops_ok hL (ops := q.2) (z := (st.2.1, st.2.2.1.1)) hH.1 hS
    obtain ⟨e2, g3, g4⟩ := tk_tg2_ok g2 hH.2
    exact kk (st.1, y.1, (e2, st.2.2.1.2), st.2.2.2) (List.mem_filterMap.mpr ⟨y, g1, by rw [g3]⟩) vals rads H locs ls stk lc ⟨g4, hH.2⟩ hR hl hL g5
  · cases h
/-- the first that says something -/
def tk_hkO (f g : Nat → tk_S → Option (List tk_S)) : Nat → tk_S → Option (List tk_S) := fun pc st => match f pc st with
  | some l => some l
  | none => g pc st
theorem tk_hkO_ok {TY : tk_TT} {ro : Nat → Nat → Int → Prop} {X : va_W → Prop} {ads tw : List Nat} {f g : Nat → tk_S → Option (List tk_S)} (hf : tk_hkok TY ro X ads tw f) (hg : tk_hkok TY ro X ads tw g) : tk_hkok TY ro X ads tw (tk_hkO f g) := by
  intro mods ws0 s D cl Ad vals0 rads0 nL K pc st l h
  unfold tk_hkO at h
  split at h
  · next l' hl' => cases h; exact hf mods ws0 s D cl Ad vals0 rads0 nL K pc st _ hl'
  · exact hg mods ws0 s D cl Ad vals0 rads0 nL K pc st l h
end MH40_1
section MH40_2
/-! ===== tk: a contract of a part of the world holds in the whole ===== -/
theorem rk_Met_case {l : Launch} {y : MethodName} {ws : List Jvm.Cond} {rm : Room} {Pc : Array Value → State → Prop} {Qc : Array Value → State → Outcome → State → Prop} {mc ms : Nat} {free : Addr → Prop} (h : ∀ a U, Pc a U → ∃ (Pc' : Array Value → State → Prop) (Qc' : Array Value → State → Outcome → State → Prop), Met l y ws rm Pc' Qc' mc ms free ∧ Pc' a U ∧ ∀ o t, U.WarmedH t.vm → Qc' a U o t → Qc a U o t) : Met l y ws rm Pc Qc mc ms free := by
  unfold Met
  intro p e ha hcs hk s m args below hfr happ hP hK
  obtain ⟨Pc', Qc', hm, hP', hQ⟩ := h args s hP
  unfold Met at hm
  obtain ⟨n, o, g1, g2, g3, g4, L, g5, g6⟩ := hm p e ha hcs hk s m args below hfr happ hP' hK
  exact ⟨n, o, g1, g2, g3, hQ o _ g5.2.1 g4, L, g5, g6⟩
/-- a field's reference stays among the types of S -/
def tk_clF (S : Nat → Bool) (n : Nat) (f : tk_F) : Bool := cond (Nat.beq f.1 2) ((List.range n).all (fun i => S (f.2.1.toNat + i * f.2.2.toNat))) true
def tk_clT (S : Nat → Bool) (q : tk_TY) : Bool := match q with
  | .inl o => o.2.all (fun f => tk_clF S 1 f && (!(Nat.beq f.1 2) || decide (f.2.2 = 0)))
  | .inr q => tk_clF S q.2.1 q.2.2
/-- the types of S are alike in both, and closed -/
def tk_sbT (S : Nat → Bool) (TY TL : tk_TT) : Prop := (∀ t, S t = true → TL.1[t]? = TY.1[t]? ∧ TL.2.2.1 t = TY.2.2.1 t) ∧ TL.2.1 = TY.2.1 ∧ ∀ t q, S t = true → TY.1[t]? = some q → tk_clT S q = true
section TKSB
variable {ro : Nat → Nat → Int → Prop} {reg : Nat → Nat → tk_I} {adA adB twA twB : List Nat} {S : Nat → Bool}
/-- which of the two parts: 0 the first -/
def tk_prt {α : Type} (b : Bool) (A B : List α) : List α := cond b A B
theorem tk_ty_sub (hA : ∀ (j t : Nat), twA[j]? = some t → S t = true) (hB : ∀ (j t : Nat), twB[j]? = some t → S t = false) (hlen : twA.length = adA.length) {t y : Nat} (hS : S t = true) : tk_ty (adA ++ adB) (twA ++ twB) t y ↔ tk_ty adA twA t y := by
  constructor
  · rintro ⟨j, h1, h2⟩
    by_cases hj : j < adA.length
    · exact ⟨j, by rw [List.getElem?_append_left hj] at h1; exact h1, by rw [List.getElem?_append_left (by omega)] at h2; exact h2⟩
    · rw [List.getElem?_append_right (by omega)] at h2
      have := hB _ _ h2
      rw [hS] at this
      cases this
  · rintro ⟨j, h1, h2⟩
    exact ⟨j, by rw [List.getElem?_append_left (List.getElem?_eq_some_iff.mp h1).1]; exact h1, by rw [List.getElem?_append_left (List.getElem?_eq_some_iff.mp h2).1]; exact h2⟩
theorem tk_ty_sub2 (hA : ∀ (j t : Nat), twA[j]? = some t → S t = false) (hB : ∀ (j t : Nat), twB[j]? = some t → S t = true) (hlen : twA.length = adA.length) {t y : Nat} (hS : S t = true) : tk_ty (adA ++ adB) (twA ++ twB) t y ↔ tk_ty adB twB t y := by
  constructor
  · rintro ⟨j, h1, h2⟩
    by_cases hj : j < twA.length
    · rw [List.getElem?_append_left hj] at h2
      have := hA _ _ h2
      rw [hS] at this
      cases this
    · exact ⟨j - adA.length, by rw [List.getElem?_append_right (by omega)] at h1; exact h1, by rw [List.getElem?_append_right (by omega), hlen] at h2; exact h2⟩
  · rintro ⟨j, h1, h2⟩
    exact ⟨adA.length + j, by rw [List.getElem?_append_right (by omega), show adA.length + j - adA.length = j by omega]; exact h1, by rw [List.getElem?_append_right (by omega), show adA.length + j - twA.length = j by omega]; exact h2⟩
/-- a typed value, in the part and in the whole -/
theorem tk_fv_sub {adL twL ads tw : List Nat} (hty : ∀ t y, S t = true → (tk_ty adL twL t y ↔ tk_ty ads tw t y)) {n t i : Nat} {f : tk_F} {v : Value} (hi : i < n) (hf : tk_clF S n f = true) : tk_fv ro reg adL twL t i f v ↔ tk_fv ro reg ads tw t i f v := by
  unfold tk_fv
  split
  · exact Iff.rfl
  · exact Iff.rfl
  · next e =>
    have hS : S (f.2.1.toNat + i * f.2.2.toNat) = true := by
      unfold tk_clF at hf
      rw [show Nat.beq f.1 2 = true by rw [e]; rfl] at hf
      exact List.all_eq_true.mp hf i (List.mem_range.mpr hi)
    constructor
    · rintro ⟨y, e1, h1⟩
      exact ⟨y, e1, (hty _ _ hS).mp h1⟩
    · rintro ⟨y, e1, h1⟩
      exact ⟨y, e1, (hty _ _ hS).mpr h1⟩
  · exact Iff.rfl
  · exact Iff.rfl
  · exact Iff.rfl
  · exact Iff.rfl
  · exact Iff.rfl
theorem tk_fv_i0 {ads tw : List Nat} {t i : Nat} {f : tk_F} {v : Value} (h : (!(Nat.beq f.1 2) || decide (f.2.2 = 0)) = true) : ∀ {adL twL : List Nat}, (tk_fv ro reg adL twL t 0 f v ↔ tk_fv ro reg ads tw t 0 f v) → f.1 = 2 → (tk_fv ro reg adL twL t i f v ↔ tk_fv ro reg ads tw t i f v) := by
  intro adL twL hh e
  rw [e] at h
  have h0 : f.2.2 = 0 := by
    rw [Bool.or_eq_true, decide_eq_true_eq] at h
    rcases h with h | h
    · cases h
    · exact h
  unfold tk_fv at hh ⊢
  rw [e, h0] at hh ⊢
  simpa using hh
theorem tk_cl_sub {TY TL : tk_TT} {adL twL ads tw : List Nat} (hT : tk_sbT S TY TL) (hty : ∀ t y, S t = true → (tk_ty adL twL t y ↔ tk_ty ads tw t y)) {U : State} {t : Nat} {e : va_E} (hS : S t = true) : tk_cl TL ro adL twL U t e ↔ tk_cl TY ro ads tw U t e := by
  obtain ⟨h1, h2, h3⟩ := hT
  unfold tk_cl
  rw [(h1 t hS).1, h2]
  cases hq : TY.1[t]? with
  | none => exact Iff.rfl
  | some q =>
    have hc := h3 t q hS hq
    cases q with
    | inl o =>
      dsimp only
      have key : ∀ (i : Nat) (f : tk_F) (v : Value), o.2[i]? = some f → (tk_fv ro TY.2.1 adL twL t i f v ↔ tk_fv ro TY.2.1 ads tw t i f v) := by
        intro i f v hf
        have := List.all_eq_true.mp hc f (List.mem_of_getElem? hf)
        rw [Bool.and_eq_true] at this
        by_cases e2 : f.1 = 2
        · exact tk_fv_i0 this.2 (tk_fv_sub hty (n := 1) (by decide) this.1) e2
        · unfold tk_fv
          split
          · exact Iff.rfl
          · exact Iff.rfl
          · next e => exact absurd e e2
          · exact Iff.rfl
          · exact Iff.rfl
          · exact Iff.rfl
          · exact Iff.rfl
          · exact Iff.rfl
      constructor
      · rintro ⟨vs, g1, g2, g3⟩
        exact ⟨vs, g1, g2, fun i f v hf hv => (key i f v hf).mp (g3 i f v hf hv)⟩
      · rintro ⟨vs, g1, g2, g3⟩
        exact ⟨vs, g1, g2, fun i f v hf hv => (key i f v hf).mpr (g3 i f v hf hv)⟩
    | inr q =>
      dsimp only
      have key : ∀ (i : Nat) (v : Value), i < q.2.1 → (tk_fv ro TY.2.1 adL twL t i q.2.2 v ↔ tk_fv ro TY.2.1 ads tw t i q.2.2 v) := fun i v hi => tk_fv_sub hty hi hc
      have harr : ∀ cA, tk_ar ro TY.2.1 adL twL t q cA e ↔ tk_ar ro TY.2.1 ads tw t q cA e := by
        intro cA
        unfold tk_ar
        split
        all_goals first
          | exact Iff.rfl
          | (constructor
             · rintro ⟨f, g1, g2⟩
               exact ⟨f, g1, fun i hi => (key i _ hi).mp (g2 i hi)⟩
             · rintro ⟨f, g1, g2⟩
               exact ⟨f, g1, fun i hi => (key i _ hi).mpr (g2 i hi)⟩)
      constructor
      · rintro ⟨cA, g1, g2, g3⟩
        exact ⟨cA, g1, g2, (harr cA).mp g3⟩
      · rintro ⟨cA, g1, g2, g3⟩
        exact ⟨cA, g1, g2, (harr cA).mpr g3⟩
end TKSB
end MH40_2
section MH40_3
/-! ===== tk: the first part of a world, the second part ===== -/
section TKLF
variable {l : Launch} {D : va_G} {cl : List vw_C} {tbl xw : List Jvm.Cond} {MN : List rk_N} {P : List rk_M2} {xt : tk_XT} {ro : Nat → Nat → Int → Prop} {ads1 ads2 tw1 tw2 : List Nat}
theorem tk_rg_sub {S : Nat → Bool} {TY TL : tk_TT} (hT : tk_sbT S TY TL) {t : Nat} (hS : S t = true) (i : Nat) : tk_rg TL t i = tk_rg TY t i := by
  unfold tk_rg
  rw [(hT.1 t hS).2]
theorem tk_all_of {S : Nat → Bool} {tw : List Nat} (h : ∀ (j t : Nat), tw[j]? = some t → S t = true) : tw.all S = true := List.all_eq_true.mpr (fun t ht => by
  obtain ⟨j, hj⟩ := List.getElem?_of_mem ht
  exact h j t hj)
set_option maxHeartbeats 4000000 in
theorem tk_KS_pfx {S : Nat → Bool} {TY TL : tk_TT} {X1 X2 XL : va_W → Prop} (hT : tk_sbT S TY TL) (hA : ∀ (j t : Nat), tw1[j]? = some t → S t = true) (hB : ∀ (j t : Nat), tw2[j]? = some t → S t = false) (hl : tw1.length = ads1.length) (hXL : ∀ wsA wsB : va_W, wsA.length = ads1.length → (XL (wsA ++ wsB) ↔ X1 wsA ∧ X2 wsB)) (hxt : tk_xtok xt) {d : Nat} {K : tk_K} (hK : K.2.2.2.1.all S = true) (h : tk_KS l D cl tbl xw xt MN P TY ro X1 ads1 tw1 d K) : tk_KS l D cl tbl xw xt MN P TL ro XL (ads1 ++ ads2) (tw1 ++ tw2) d K := by
  intro q hq
  obtain ⟨M, hM, hM21, hmet⟩ := h q hq
  refine ⟨M, hM, hM21, fun vals rads ws av sz hH h3 hA2 h4 h9 hob => rk_Met_case (fun a U hP => ?_)⟩
  obtain ⟨p1, p2, p3, p4, p5, p6, p7, p8, p10⟩ := hP
  have hty : ∀ t y, S t = true → (tk_ty (ads1 ++ ads2) (tw1 ++ tw2) t y ↔ tk_ty ads1 tw1 t y) := fun t y hS => tk_ty_sub hA hB hl hS
  -- the two parts
  obtain ⟨ws1, ws2, rfl, h41, h42⟩ : ∃ ws1 ws2 : va_W, ws = ws1 ++ ws2 ∧ ws1.map Prod.fst = ads1 ∧ ws2.map Prod.fst = ads2 := by
    refine ⟨ws.take ads1.length, ws.drop ads1.length, (List.take_append_drop _ _).symm, ?_, ?_⟩
    · rw [List.map_take, h4, List.take_left]
    · rw [List.map_drop, h4, List.drop_left]
  have hl1 : ws1.length = ads1.length := by rw [← h41, List.length_map]
  have hS1 := tk_all_of hA
  obtain ⟨c1, c2⟩ : rk_A2 (fun t (q : Nat × va_E) => tk_cl TL ro (ads1 ++ ads2) (tw1 ++ tw2) U t q.2) tw1 ws1 ∧ rk_A2 (fun t (q : Nat × va_E) => tk_cl TL ro (ads1 ++ ads2) (tw1 ++ tw2) U t q.2) tw2 ws2 := by
    have e1 := rk_A2.take tw1.length p6
    have e2 := rk_A2.drop tw1.length p6
    rw [List.take_left, show tw1.length = ws1.length by omega, List.take_left] at e1
    rw [List.drop_left, show tw1.length = ws1.length by omega, List.drop_left] at e2
    exact ⟨e1, e2⟩
  have ht1 : rk_A2 (fun t (q : Nat × va_E) => tk_cl TY ro ads1 tw1 U t q.2) tw1 ws1 := rk_A2.imp (fun t q hS hc => (tk_cl_sub hT hty hS).mp hc) hS1 c1
  have h3s : rk_A2 (fun t y => tk_ty ads1 tw1 t y) K.2.2.2.1 rads := rk_A2.imp (fun t y hS hc => (hty t y hS).mp hc) hK h3
  have h9s : ∀ z ∈ K.2.2.2.2.1, tk_fk vals rads ws1 z := by
    intro z hz
    obtain ⟨y, j, i, e, v, g1, g2, g3, g4, g5⟩ := h9 z hz
    obtain ⟨t, -, j1, hj1, -⟩ := h3s.getR g1
    rw [← h41, List.getElem?_map] at hj1
    obtain ⟨w1, hw1, ew1⟩ := Option.map_eq_some_iff.mp hj1
    have hlt := (List.getElem?_eq_some_iff.mp hw1).1
    have := p5.1 j j1 _ w1 g3 (by rw [List.getElem?_append_left hlt]; exact hw1) ew1.symm
    subst this
    rw [List.getElem?_append_left hlt] at g3
    exact ⟨y, j, i, e, v, g1, g2, g3, g4, g5⟩
  have hfree : ∀ q, va_A ws1 sz q → va_A (ws1 ++ ws2) sz q := by
    rintro q (⟨k, e1, hk⟩ | hq)
    · exact Or.inl ⟨k, e1, by rw [List.getElem?_append_left (List.getElem?_eq_some_iff.mp hk).1]; exact hk⟩
    · exact Or.inr hq
  have p31 : va_P D cl ws1 U.heap := by
    have := rk_P_take (D := D) (cl := cl) ws1.length p3
    rw [List.take_left] at this
    exact this
  have p32 : va_P D cl ws2 U.heap := by
    have := rk_P_drop (D := D) (cl := cl) ws1.length p3
    rw [List.drop_left] at this
    exact this
  have p51 : va_D (fun _ => True) ws1 := by
    have := rk_D_take ws1.length p5
    rw [List.take_left] at this
    exact this
  have p52 : va_D (fun _ => True) ws2 := by
    have := rk_D_drop ws1.length p5
    rw [List.drop_left] at this
    exact this
  obtain ⟨x1, x2⟩ := (hXL ws1 ws2 hl1).mp p10
  refine ⟨tk_Pre D cl xw xt TY ro X1 ads1 tw1 ws1 sz av, tk_Post D cl TY ro X1 ads1 tw1 K.2.2.2.2.2 vals rads ws1 (va_A ws1 sz), rk_Met_imp (hmet vals rads ws1 av sz hH h3s hA2 h41 h9s (tk_ob_of h41 ht1)) (fun _ _ z => z) (fun _ _ _ _ _ _ z => z) hfree, ⟨p1, p2, p31, p4, p51, ht1, p7, hxt.2.2 _ _ _ _ _ p8 (fun _ _ _ => rfl) hfree, x1⟩, ?_⟩
  rintro oc t hW ⟨⟨x, hx, vals', rads', ws', k1, k2, b3, b4, b5, b6, b7, b8, b9, b10, b11⟩, hF⟩
  have hlw : ws'.length = ads1.length := by rw [← b5, List.length_map]
  have hout : ∀ (k9 : Nat) (z : Nat × va_E), ws2[k9]? = some z → ¬ va_A ws1 sz z.1 := by
    rintro k9 z hz (⟨k8, e8, hk8⟩ | hq8)
    · have hlt := (List.getElem?_eq_some_iff.mp hk8).1
      have := p5.1 (ws1.length + k9) k8 z (z.1, e8) (by rw [List.getElem?_append_right (by omega), show ws1.length + k9 - ws1.length = k9 by omega]; exact hz) (by rw [List.getElem?_append_left hlt]; exact hk8) rfl
      omega
    · have := (p32 k9 z hz).lt
      rw [p2] at this
      omega
  have hin : ∀ t y, tk_ty ads1 tw1 t y → tk_ty (ads1 ++ ads2) (tw1 ++ tw2) t y := by
    rintro t y ⟨j, g1, g2⟩
    exact ⟨j, by rw [List.getElem?_append_left (List.getElem?_eq_some_iff.mp g1).1]; exact g1, by rw [List.getElem?_append_left (List.getElem?_eq_some_iff.mp g2).1]; exact g2⟩
  refine ⟨⟨x, hx, vals', rads', ws' ++ ws2, k1, k2, b3, b4.mono (fun t y hc => hin t y hc), by rw [List.map_append, b5, h42], ?_, ?_, ?_, fun z hz => ?_, ⟨?_, ?_⟩, b11⟩, hF.1, fun q9 h9 hn9 => hF.2 q9 h9 (fun z => hn9 (hfree q9 z))⟩
  · exact rk_A2.app (c2.mono (fun t q hc => tk_cl_moved hW.alike hc)) (rk_A2.imp (fun t q hS hc => (tk_cl_sub hT hty hS).mpr hc) hS1 b6)
  · exact b7.app (p32.kept (fun k9 z hz => hF.2 z.1 ((p32 k9 z hz).lt) (hout k9 z hz)))
  · refine va_D.app (b8.weaken (fun _ _ _ z => hfree _ z)) (p52.weaken (fun k9 z hz _ => Or.inl ⟨ws1.length + k9, z.2, by rw [List.getElem?_append_right (by omega), show ws1.length + k9 - ws1.length = k9 by omega]; exact hz⟩)) (fun i j a1 a2 hi hj e9 => ?_)
    exact hout j a2 hj (e9 ▸ b8.2 i a1 hi)
  · obtain ⟨y, j, i, e, v, g1, g2, g3, g4, g5⟩ := b9 z hz
    exact ⟨y, j, i, e, v, g1, g2, by rw [List.getElem?_append_left (List.getElem?_eq_some_iff.mp g3).1]; exact g3, g4, g5⟩
  · intro j y e hj
    by_cases hlt : j < ws1.length
    · rw [List.getElem?_append_left hlt] at hj
      obtain ⟨e', g1, g2, g3⟩ := b10.1 j y e hj
      have hj1 : j < tw1.length := by omega
      have htS : ∀ t, (tw1 ++ tw2)[j]? = some t → tw1[j]? = some t ∧ S t = true := fun t ht => by
        rw [List.getElem?_append_left hj1] at ht
        exact ⟨ht, hA j t ht⟩
      refine ⟨e', by rw [List.getElem?_append_left (by omega)]; exact g1, fun i t ht hn => ?_, fun t ht hn => ?_⟩
      · obtain ⟨a1, a2⟩ := htS t ht
        exact g2 i t a1 (by rw [tk_rg_sub hT a2] at hn; exact hn)
      · obtain ⟨a1, a2⟩ := htS t ht
        exact g3 t a1 (fun i => by
          have := hn i
          rw [tk_rg_sub hT a2] at this
          exact this)
    · rw [List.getElem?_append_right (by omega)] at hj
      exact ⟨e, by rw [List.getElem?_append_right (by omega), show j - ws'.length = j - ws1.length by omega]; exact hj, fun _ _ _ _ => rfl, fun _ _ _ => rfl⟩
  · exact (hXL ws' ws2 hlw).mpr ⟨b10.2, x2⟩
set_option maxHeartbeats 4000000 in
theorem tk_KS_sfx {S : Nat → Bool} {TY TL : tk_TT} {X1 X2 XL : va_W → Prop} (hT : tk_sbT S TY TL) (hA : ∀ (j t : Nat), tw1[j]? = some t → S t = false) (hB : ∀ (j t : Nat), tw2[j]? = some t → S t = true) (hl : tw1.length = ads1.length) (hXL : ∀ wsA wsB : va_W, wsA.length = ads1.length → (XL (wsA ++ wsB) ↔ X1 wsA ∧ X2 wsB)) (hxt : tk_xtok xt) {d : Nat} {K : tk_K} (hK : K.2.2.2.1.all S = true) (h : tk_KS l D cl tbl xw xt MN P TY ro X2 ads2 tw2 d K) : tk_KS l D cl tbl xw xt MN P TL ro XL (ads1 ++ ads2) (tw1 ++ tw2) d K := by
  intro q hq
  obtain ⟨M, hM, hM21, hmet⟩ := h q hq
  refine ⟨M, hM, hM21, fun vals rads ws av sz hH h3 hA2 h4 h9 hob => rk_Met_case (fun a U hP => ?_)⟩
  obtain ⟨p1, p2, p3, p4, p5, p6, p7, p8, p10⟩ := hP
  have hty : ∀ t y, S t = true → (tk_ty (ads1 ++ ads2) (tw1 ++ tw2) t y ↔ tk_ty ads2 tw2 t y) := fun t y hS => tk_ty_sub2 hA hB hl hS
  obtain ⟨ws1, ws2, rfl, h41, h42⟩ : ∃ ws1 ws2 : va_W, ws = ws1 ++ ws2 ∧ ws1.map Prod.fst = ads1 ∧ ws2.map Prod.fst = ads2 := by
    refine ⟨ws.take ads1.length, ws.drop ads1.length, (List.take_append_drop _ _).symm, ?_, ?_⟩
    · rw [List.map_take, h4, List.take_left]
    · rw [List.map_drop, h4, List.drop_left]
  have hl1 : ws1.length = ads1.length := by rw [← h41, List.length_map]
  have hS1 := tk_all_of hB
  obtain ⟨c1, c2⟩ : rk_A2 (fun t (q : Nat × va_E) => tk_cl TL ro (ads1 ++ ads2) (tw1 ++ tw2) U t q.2) tw1 ws1 ∧ rk_A2 (fun t (q : Nat × va_E) => tk_cl TL ro (ads1 ++ ads2) (tw1 ++ tw2) U t q.2) tw2 ws2 := by
    have e1 := rk_A2.take tw1.length p6
    have e2 := rk_A2.drop tw1.length p6
    rw [List.take_left, show tw1.length = ws1.length by omega, List.take_left] at e1
    rw [List.drop_left, show tw1.length = ws1.length by omega, List.drop_left] at e2
    exact ⟨e1, e2⟩
  have ht1 : rk_A2 (fun t (q : Nat × va_E) => tk_cl TY ro ads2 tw2 U t q.2) tw2 ws2 := rk_A2.imp (fun t q hS hc => (tk_cl_sub hT hty hS).mp hc) hS1 c2
  have h3s : rk_A2 (fun t y => tk_ty ads2 tw2 t y) K.2.2.2.1 rads := rk_A2.imp (fun t y hS hc => (hty t y hS).mp hc) hK h3
  have hget : ∀ (k : Nat), (ws1 ++ ws2)[ws1.length + k]? = ws2[k]? := fun k => by
    rw [List.getElem?_append_right (by omega), show ws1.length + k - ws1.length = k by omega]
  have h9s : ∀ z ∈ K.2.2.2.2.1, tk_fk vals rads ws2 z := by
    intro z hz
    obtain ⟨y, j, i, e, v, g1, g2, g3, g4, g5⟩ := h9 z hz
    obtain ⟨t, -, j1, hj1, -⟩ := h3s.getR g1
    rw [← h42, List.getElem?_map] at hj1
    obtain ⟨w1, hw1, ew1⟩ := Option.map_eq_some_iff.mp hj1
    have := p5.1 j (ws1.length + j1) _ w1 g3 (by rw [hget]; exact hw1) ew1.symm
    subst this
    rw [hget] at g3
    exact ⟨y, j1, i, e, v, g1, g2, g3, g4, g5⟩
  have hfree : ∀ q, va_A ws2 sz q → va_A (ws1 ++ ws2) sz q := by
    rintro q (⟨k, e1, hk⟩ | hq)
    · exact Or.inl ⟨ws1.length + k, e1, by rw [hget]; exact hk⟩
    · exact Or.inr hq
  have p31 : va_P D cl ws1 U.heap := by
    have := rk_P_take (D := D) (cl := cl) ws1.length p3
    rw [List.take_left] at this
    exact this
  have p32 : va_P D cl ws2 U.heap := by
    have := rk_P_drop (D := D) (cl := cl) ws1.length p3
    rw [List.drop_left] at this
    exact this
  have p51 : va_D (fun _ => True) ws1 := by
    have := rk_D_take ws1.length p5
    rw [List.take_left] at this
    exact this
  have p52 : va_D (fun _ => True) ws2 := by
    have := rk_D_drop ws1.length p5
    rw [List.drop_left] at this
    exact this
  obtain ⟨x1, x2⟩ := (hXL ws1 ws2 hl1).mp p10
  refine ⟨tk_Pre D cl xw xt TY ro X2 ads2 tw2 ws2 sz av, tk_Post D cl TY ro X2 ads2 tw2 K.2.2.2.2.2 vals rads ws2 (va_A ws2 sz), rk_Met_imp (hmet vals rads ws2 av sz hH h3s hA2 h42 h9s (tk_ob_of h42 ht1)) (fun _ _ z => z) (fun _ _ _ _ _ _ z => z) hfree, ⟨p1, p2, p32, p4, p52, ht1, p7, hxt.2.2 _ _ _ _ _ p8 (fun _ _ _ => rfl) hfree, x2⟩, ?_⟩
  rintro oc t hW ⟨⟨x, hx, vals', rads', ws', k1, k2, b3, b4, b5, b6, b7, b8, b9, b10, b11⟩, hF⟩
  have hlw : ws'.length = ws2.length := by rw [← List.length_map (f := Prod.fst) (as := ws'), b5, ← h42, List.length_map]
  have hout : ∀ (k9 : Nat) (z : Nat × va_E), ws1[k9]? = some z → ¬ va_A ws2 sz z.1 := by
    rintro k9 z hz (⟨k8, e8, hk8⟩ | hq8)
    · have hlt := (List.getElem?_eq_some_iff.mp hz).1
      have := p5.1 k9 (ws1.length + k8) z (z.1, e8) (by rw [List.getElem?_append_left hlt]; exact hz) (by rw [hget]; exact hk8) rfl
      omega
    · have := (p31 k9 z hz).lt
      rw [p2] at this
      omega
  have hin : ∀ t y, tk_ty ads2 tw2 t y → tk_ty (ads1 ++ ads2) (tw1 ++ tw2) t y := by
    rintro t y ⟨j, g1, g2⟩
    exact ⟨ads1.length + j, by rw [List.getElem?_append_right (by omega), show ads1.length + j - ads1.length = j by omega]; exact g1, by rw [List.getElem?_append_right (by omega), show ads1.length + j - tw1.length = j by omega]; exact g2⟩
  refine ⟨⟨x, hx, vals', rads', ws1 ++ ws', k1, k2, b3, b4.mono (fun t y hc => hin t y hc), by rw [List.map_append, b5, h41], ?_, ?_, ?_, fun z hz => ?_, ⟨?_, ?_⟩, b11⟩, hF.1, fun q9 h9 hn9 => hF.2 q9 h9 (fun z => hn9 (hfree q9 z))⟩
  · exact rk_A2.app (rk_A2.imp (fun t q hS hc => (tk_cl_sub hT hty hS).mpr hc) hS1 b6) (c1.mono (fun t q hc => tk_cl_moved hW.alike hc))
  · exact (p31.kept (fun k9 z hz => hF.2 z.1 ((p31 k9 z hz).lt) (hout k9 z hz))).app b7
  · refine va_D.app (p51.weaken (fun k9 z hz _ => Or.inl ⟨k9, z.2, by rw [List.getElem?_append_left (List.getElem?_eq_some_iff.mp hz).1]; exact hz⟩)) (b8.weaken (fun _ _ _ z => hfree _ z)) (fun i j a1 a2 hi hj e9 => ?_)
    exact hout i a1 hi (e9 ▸ b8.2 j a2 hj)
  · obtain ⟨y, j, i, e, v, g1, g2, g3, g4, g5⟩ := b9 z hz
    exact ⟨y, ws1.length + j, i, e, v, g1, g2, by rw [List.getElem?_append_right (by omega), show ws1.length + j - ws1.length = j by omega]; exact g3, g4, g5⟩
  · intro j y e hj
    by_cases hlt : j < ws1.length
    · rw [List.getElem?_append_left hlt] at hj
      exact ⟨e, by rw [List.getElem?_append_left hlt]; exact hj, fun _ _ _ _ => rfl, fun _ _ _ => rfl⟩
    · rw [List.getElem?_append_right (by omega)] at hj
      obtain ⟨e', g1, g2, g3⟩ := b10.1 _ y e hj
      have htS : ∀ t, (tw1 ++ tw2)[j]? = some t → tw2[j - ws1.length]? = some t ∧ S t = true := fun t ht => by
        rw [List.getElem?_append_right (by omega), show j - tw1.length = j - ws1.length by omega] at ht
        exact ⟨ht, hB _ t ht⟩
      refine ⟨e', by rw [List.getElem?_append_right (by omega)]; exact g1, fun i t ht hn => ?_, fun t ht hn => ?_⟩
      · obtain ⟨a1, a2⟩ := htS t ht
        exact g2 i t a1 (by rw [tk_rg_sub hT a2] at hn; exact hn)
      · obtain ⟨a1, a2⟩ := htS t ht
        exact g3 t a1 (fun i => by
          have := hn i
          rw [tk_rg_sub hT a2] at this
          exact this)
  · exact (hXL ws1 ws' hl1).mpr ⟨x1, b10.2⟩
end TKLF
end MH40_3
section MH40_4
/-! ===== tk: large methods in pieces; a contract by the cases of a number; a contract beside what else is known of the world ===== -/
theorem tk_methL_of {hk : Nat → tk_S → Option (List tk_S)} {TY : tk_TT} {fty : rk_F} {mci : List Nat} {P : List rk_M2} {call : tk_Ca} {fuel n : Nat} {K : tk_K} {Hs : List tk_Hd} (M : rk_M2) (hM : P[K.1]? = some M) (h0 : ((Nat.ble M.2.1 21 && Nat.ble (tk_sum K.2.1) M.2.1) && cond (Hs.any (fun h => Nat.beq h.1 0)) (tk_run00 hk TY fty mci call fuel K Hs M) (tk_run0 hk TY fty mci call fuel K Hs M)) = true) (hall : Hs.all (fun h => tk_hok n h && tk_run1 hk TY fty mci call fuel K Hs M h) = true) : tk_methL hk TY fty mci P call fuel n K Hs = true := by
  unfold tk_methL
  rw [hM]
  dsimp only
  rw [Bool.and_eq_true] at h0
  rw [h0.1, h0.2, hall]
  rfl
theorem tk_all_app {α : Type} {f : α → Bool} {l k : List α} (h1 : l.all f = true) (h2 : k.all f = true) : (l ++ k).all f = true := by
  rw [List.all_append, h1, h2]
  rfl
def tk_Kset (K : tk_K) (i : Nat) (J : tk_I) : tk_K := (K.1, K.2.1, (K.2.2.1.1.set i J, K.2.2.1.2), K.2.2.2)
section TKT
variable {l : Launch} {D : va_G} {cl : List vw_C} {tbl xw : List Jvm.Cond} {fty : rk_F} {cln : List String} {MN : List rk_N} {mci : List Nat} {P : List rk_M2} {xt : tk_XT} {TY : tk_TT} {ro : Nat → Nat → Int → Prop} {X : va_W → Prop} {ads tw : List Nat}
theorem tk_contractP {hk : Nat → tk_S → Option (List tk_S)} (hhk : tk_hkok TY ro X ads tw hk) (hXs : tk_xs TY X ads tw) (hxt : tk_xtok xt) (hok : rk_ok tbl xw cl fty cln MN mci P) (inl : List Nat) (fuel n m : Nat) {Ks : List tk_K} {d D' : Nat} (hK : ∀ K ∈ Ks, tk_KS l D cl tbl xw xt MN P TY ro X ads tw d K) {K : tk_K} {Hs : List tk_Hd} {M : rk_M2} (hM : P[K.1]? = some M) (h0 : ((Nat.ble M.2.1 21 && Nat.ble (tk_sum K.2.1) M.2.1) && cond (Hs.any (fun h => Nat.beq h.1 0)) (tk_run00 hk TY fty mci (tk_callI inl K.2.2.2.2.2.2 TY fty mci P fuel Ks n) fuel K Hs M) (tk_run0 hk TY fty mci (tk_callI inl K.2.2.2.2.2.2 TY fty mci P fuel Ks n) fuel K Hs M)) = true) (hall : Hs.all (fun h => tk_hok m h && tk_run1 hk TY fty mci (tk_callI inl K.2.2.2.2.2.2 TY fty mci P fuel Ks n) fuel K Hs M h) = true) (hD : d + n + 1 = D') : tk_KS l D cl tbl xw xt MN P TY ro X ads tw D' K :=
  tk_contract hhk hXs hxt hok inl fuel n m hK (tk_methL_of M hM h0 hall) hD
theorem tk_KS_join {K : tk_K} {i : Nat} {I J0 : tk_I} {Ls : List tk_I} {d : Nat} (hi : K.2.2.1.1[i]? = some I) (h0 : J0 ∈ Ls) (hcov : ∀ x : Int, I.1 ≤ x → x ≤ I.2 → ∃ J ∈ Ls, J.1 ≤ x ∧ x ≤ J.2) (h : ∀ J ∈ Ls, tk_KS l D cl tbl xw xt MN P TY ro X ads tw d (tk_Kset K i J)) : tk_KS l D cl tbl xw xt MN P TY ro X ads tw d K := by
  intro q hq
  obtain ⟨M, hM, hM21, -⟩ := h J0 h0 q hq
  refine ⟨M, hM, hM21, fun vals rads ws av sz hH h3 hA2 h4 h9 hob => ?_⟩
  obtain ⟨x, hx, b1, b2⟩ := hH.1.get hi
  obtain ⟨J, hJ, c1, c2⟩ := hcov x b1 b2
  obtain ⟨M', hM', -, hmet⟩ := h J hJ q hq
  have e : M' = M := Option.some.inj (hM'.symm.trans hM)
  subst e
  exact hmet vals rads ws av sz ⟨rk_A2.setL (R := fun (I : tk_I) (x : Int) => I.1 ≤ x ∧ x ≤ I.2) ⟨c1, c2⟩ hH.1 hx, hH.2⟩ h3 hA2 h4 h9 hob
/-- consecutive bounds cover -/
def tk_cvr : List tk_I → Int → Int → Bool
  | [], a, b => decide (b < a)
  | J :: r, a, b => decide (J.1 ≤ a) && tk_cvr r (J.2 + 1) b
theorem tk_cvr_ok : ∀ {Ls : List tk_I} {a b : Int}, tk_cvr Ls a b = true → ∀ x : Int, a ≤ x → x ≤ b → ∃ J ∈ Ls, J.1 ≤ x ∧ x ≤ J.2 := by
  intro Ls
  induction Ls with
  | nil =>
    intro a b h x h1 h2
    have := of_decide_eq_true (show decide (b < a) = true from h)
    omega
  | cons J r ih =>
    intro a b h x h1 h2
    have h := Bool.and_eq_true_iff.mp (show (decide (J.1 ≤ a) && tk_cvr r (J.2 + 1) b) = true from h)
    have h3 := of_decide_eq_true h.1
    by_cases hx : x ≤ J.2
    · exact ⟨J, List.mem_cons_self, by omega, hx⟩
    · obtain ⟨J', g1, g2⟩ := ih h.2 x (by omega) h2
      exact ⟨J', List.mem_cons_of_mem _ g1, g2⟩
/-- the same types, but for the places that are not to be written -/
def tk_TF (TY : tk_TT) (FX : List (Nat × Nat)) (G : tk_S → Nat → Nat → tk_V → tk_V → Bool) : tk_TT := (TY.1, TY.2.1, TY.2.2.1, FX, G)
def tk_X1 (TY : tk_TT) (FX : List (Nat × Nat)) (X : va_W → Prop) (tw : List Nat) : Prop := ∀ (m : List (Nat × Nat)) (ws ws' : va_W), ws'.map Prod.fst = ws.map Prod.fst → (∀ z ∈ m, ¬ z ∈ FX) → tk_un TY m tw ws ws' → X ws → X ws'
theorem tk_KS_X {FX : List (Nat × Nat)} {G : tk_S → Nat → Nat → tk_V → tk_V → Bool} {X0 : va_W → Prop} (hX1 : tk_X1 TY FX X tw) (hX0 : ∀ ws, X0 ws) {d : Nat} {K : tk_K} (hm : ∀ z ∈ K.2.2.2.2.2.2, ¬ z ∈ FX) (h : tk_KS l D cl tbl xw xt MN P TY ro X0 ads tw d K) : tk_KS l D cl tbl xw xt MN P (tk_TF TY FX G) ro X ads tw d K := by
  intro q hq
  obtain ⟨M, hM, hM21, hmet⟩ := h q hq
  refine ⟨M, hM, hM21, fun vals rads ws av sz hH h3 hA2 h4 h9 hob => rk_Met_case (fun a U hP => ?_)⟩
  obtain ⟨p1, p2, p3, p4, p5, p6, p7, p8, p10⟩ := hP
  refine ⟨tk_Pre D cl xw xt TY ro X0 ads tw ws sz av, tk_Post D cl TY ro X0 ads tw K.2.2.2.2.2 vals rads ws (va_A ws sz), rk_Met_imp (hmet vals rads ws av sz hH h3 hA2 h4 h9 hob) (fun _ _ z => z) (fun _ _ _ _ _ _ z => z) (fun _ z => z), ⟨p1, p2, p3, p4, p5, p6, p7, p8, hX0 _⟩, ?_⟩
  rintro oc t hW ⟨⟨x, hx, vals', rads', ws', k1, k2, b3, b4, b5, b6, b7, b8, b9, b10, b11⟩, hF⟩
  exact ⟨⟨x, hx, vals', rads', ws', k1, k2, b3, b4, b5, b6, b7, b8, b9, ⟨b10.1, hX1 _ _ _ (by rw [b5, h4]) hm b10.1 p10⟩, b11⟩, hF⟩
end TKT
end MH40_4
section MH40_5
/-! ===== fx: an interpreter of the methods over exact worlds: a reference is the place of its cell ===== -/
abbrev fx_L : Type := List (Nat × Value)
abbrev fx_R : Type := Option (Nat × fx_L × List Value)
def fx_get : fx_L → Nat → Option Value
  | [], _ => none
  | q :: r, i => cond (Nat.beq q.1 i) (some q.2) (fx_get r i)
def fx_kd (v : Value) : Nat := match v with
  | .int _ => 0
  | .long _ => 1
  | .ref _ => 2
  | _ => 3
def fx_f_ld (pc k kd : Nat) (lc : fx_L) (stk : List Value) : fx_R := match fx_get lc k with
  | some v => cond (Nat.beq (fx_kd v) kd) (some (pc, lc, v :: stk)) none
  | none => none
def fx_st1 (lc : fx_L) (i : Nat) (v : Value) : fx_L := (i, v) :: lc.filter (fun q => !(q.1 == i) && !(q.1 + 1 == i && q.2.category == 2))
def fx_st2 (lc : fx_L) (i : Nat) (v : Value) : fx_L := (i, v) :: lc.filter (fun q => !(q.1 == i) && (!(q.1 == i + 1) && !(q.1 + 1 == i && q.2.category == 2)))
def fx_f_st (nL pc i kd : Nat) (lc : fx_L) (stk : List Value) : fx_R := match stk with
  | v :: r => cond (Nat.beq (fx_kd v) kd && Nat.blt i nL) (some (pc, fx_st1 lc i v, r)) none
  | _ => none
def fx_f_st2 (nL pc i : Nat) (lc : fx_L) (stk : List Value) : fx_R := match stk with
  | v :: r => cond (Nat.beq (fx_kd v) 1 && Nat.blt (i + 1) nL) (some (pc, fx_st2 lc i v, r)) none
  | _ => none
def fx_f_inc (nL pc i : Nat) (n : Int) (lc : fx_L) (stk : List Value) : fx_R := match fx_get lc i with
  | some (.int x) => cond (Nat.blt i nL) (some (pc, fx_st1 lc i (.int (x + Int32.ofInt n)), stk)) none
  | _ => none
def fx_bi (f : Int32 → Int32 → Int32) (pc : Nat) (lc : fx_L) (stk : List Value) : fx_R := match stk with
  | .int y :: .int x :: r => some (pc, lc, .int (f x y) :: r)
  | _ => none
def fx_bl (f : Int64 → Int64 → Int64) (pc : Nat) (lc : fx_L) (stk : List Value) : fx_R := match stk with
  | .long y :: .long x :: r => some (pc, lc, .long (f x y) :: r)
  | _ => none
def fx_bz (f : Int32 → Int32 → Int32) (pc : Nat) (lc : fx_L) (stk : List Value) : fx_R := match stk with
  | .int y :: .int x :: r => if y = 0 then none else some (pc, lc, .int (f x y) :: r)
  | _ => none
def fx_blz (f : Int64 → Int64 → Int64) (pc : Nat) (lc : fx_L) (stk : List Value) : fx_R := match stk with
  | .long y :: .long x :: r => if y = 0 then none else some (pc, lc, .long (f x y) :: r)
  | _ => none
def fx_sh (f : Int64 → Int32 → Int64) (pc : Nat) (lc : fx_L) (stk : List Value) : fx_R := match stk with
  | .int y :: .long x :: r => some (pc, lc, .long (f x y) :: r)
  | _ => none
def fx_ui (f : Int32 → Value) (pc : Nat) (lc : fx_L) (stk : List Value) : fx_R := match stk with
  | .int x :: r => some (pc, lc, f x :: r)
  | _ => none
def fx_ul (f : Int64 → Value) (pc : Nat) (lc : fx_L) (stk : List Value) : fx_R := match stk with
  | .long x :: r => some (pc, lc, f x :: r)
  | _ => none
def fx_dup (pc : Nat) (lc : fx_L) (stk : List Value) : fx_R := match stk with
  | v :: r => cond (Nat.beq v.category 1) (some (pc, lc, v :: v :: r)) none
  | _ => none
def fx_dup2 (pc : Nat) (lc : fx_L) (stk : List Value) : fx_R := match stk with
  | a :: b :: r => cond (Nat.beq a.category 1 && Nat.beq b.category 1) (some (pc, lc, a :: b :: a :: b :: r)) (cond (Nat.beq a.category 2) (some (pc, lc, a :: a :: b :: r)) none)
  | _ => none
def fx_pop (pc k : Nat) (lc : fx_L) (stk : List Value) : fx_R := match stk with
  | v :: r => cond (Nat.beq v.category k) (some (pc, lc, r)) none
  | _ => none
def fx_cmp (c : ClassFile.Cond) (x y : Int32) : Prop := match c with
  | .eq => x = y
  | .ne => ¬ x = y
  | .lt => x < y
  | .ge => y ≤ x
  | .gt => y < x
  | .le => x ≤ y
def fx_cb (c : ClassFile.Cond) (x y : Int32) : Bool := match c with
  | .eq => decide (x = y)
  | .ne => !decide (x = y)
  | .lt => decide (x < y)
  | .ge => decide (y ≤ x)
  | .gt => decide (y < x)
  | .le => decide (x ≤ y)
def fx_to (pc : Nat) (off : Int) : Nat := ((pc : Int) + off).toNat
def fx_if (c : ClassFile.Cond) (pc : Nat) (off : Int) (lc : fx_L) (stk : List Value) : fx_R := match stk with
  | .int y :: .int x :: r => cond (decide (0 ≤ (pc : Int) + off)) (some (cond (fx_cb c x y) (fx_to pc off) (pc + 3), lc, r)) none
  | _ => none
def fx_if0 (c : ClassFile.Cond) (pc : Nat) (off : Int) (lc : fx_L) (stk : List Value) : fx_R := match stk with
  | .int x :: r => cond (decide (0 ≤ (pc : Int) + off)) (some (cond (fx_cb c x 0) (fx_to pc off) (pc + 3), lc, r)) none
  | _ => none
def fx_goto (pc : Nat) (off : Int) (lc : fx_L) (stk : List Value) : fx_R := cond (decide (0 ≤ (pc : Int) + off)) (some (fx_to pc off, lc, stk)) none
def fx_lcmp (pc : Nat) (lc : fx_L) (stk : List Value) : fx_R := match stk with
  | .long y :: .long x :: r => some (pc, lc, .int (lg_cmp x y) :: r)
  | _ => none
def fx_push (pc : Nat) (v : Value) (lc : fx_L) (stk : List Value) : fx_R := some (pc, lc, v :: stk)
def fx_pure (nL pc : Nat) (ins : Instr) : fx_L → List Value → fx_R := match ins with
  | .iconst n => fx_push (pc + 1) (.int (Int32.ofInt n))
  | .bipush n => fx_push (pc + 2) (.int (Int8.ofInt n).toInt32)
  | .sipush n => fx_push (pc + 3) (.int (Int16.ofInt n).toInt32)
  | .lconst n => fx_push (pc + 1) (.long (Int64.ofNat (n : Nat)))
  | .iload_n k => fx_f_ld (pc + 1) k 0
  | .iload k => fx_f_ld (pc + 2) k 0
  | .lload_n k => fx_f_ld (pc + 1) k 1
  | .lload k => fx_f_ld (pc + 2) k 1
  | .aload_n k => fx_f_ld (pc + 1) k 2
  | .aload k => fx_f_ld (pc + 2) k 2
  | .istore_n k => fx_f_st nL (pc + 1) k 0
  | .istore k => fx_f_st nL (pc + 2) k 0
  | .astore_n k => fx_f_st nL (pc + 1) k 2
  | .astore k => fx_f_st nL (pc + 2) k 2
  | .lstore_n k => fx_f_st2 nL (pc + 1) k
  | .lstore k => fx_f_st2 nL (pc + 2) k
  | .iinc i n => fx_f_inc nL (pc + 3) i n
  | .dup => fx_dup (pc + 1)
  | .dup2 => fx_dup2 (pc + 1)
  | .pop => fx_pop (pc + 1) 1
  | .pop2 => fx_pop (pc + 1) 2
  | .iadd => fx_bi (fun x y => x + y) (pc + 1)
  | .isub => fx_bi (fun x y => x - y) (pc + 1)
  | .imul => fx_bi (fun x y => x * y) (pc + 1)
  | .iand => fx_bi (fun x y => x &&& y) (pc + 1)
  | .ior => fx_bi (fun x y => x ||| y) (pc + 1)
  | .ixor => fx_bi (fun x y => x ^^^ y) (pc + 1)
  | .ishl => fx_bi (fun x y => x <<< (y &&& 31)) (pc + 1)
  | .ishr => fx_bi (fun x y => x >>> (y &&& 31)) (pc + 1)
  | .iushr => fx_bi (fun x y => (x.toUInt32 >>> (y.toUInt32 &&& Int32.toUInt32 31)).toInt32) (pc + 1)
  | .idiv => fx_bz (fun x y => x / y) (pc + 1)
  | .irem => fx_bz (fun x y => x - x / y * y) (pc + 1)
  | .ladd => fx_bl (fun x y => x + y) (pc + 1)
  | .lsub => fx_bl (fun x y => x - y) (pc + 1)
  | .lmul => fx_bl (fun x y => x * y) (pc + 1)
  | .land => fx_bl (fun x y => x &&& y) (pc + 1)
  | .lor => fx_bl (fun x y => x ||| y) (pc + 1)
  | .lxor => fx_bl (fun x y => x ^^^ y) (pc + 1)
  | .ldiv => fx_blz (fun x y => x / y) (pc + 1)
  | .lrem => fx_blz (fun x y => x - x / y * y) (pc + 1)
  | .lshl => fx_sh (fun x y => x <<< (y.toInt64 &&& 63)) (pc + 1)
  | .lshr => fx_sh (fun x y => x >>> (y.toInt64 &&& 63)) (pc + 1)
  | .lushr => fx_sh (fun x y => (x.toUInt64 >>> (y.toInt64.toUInt64 &&& Int64.toUInt64 63)).toInt64) (pc + 1)
  | .ineg => fx_ui (fun x => .int (-x)) (pc + 1)
  | .i2b => fx_ui (fun x => .int (x.toInt8.toInt32)) (pc + 1)
  | .i2s => fx_ui (fun x => .int (x.toInt16.toInt32)) (pc + 1)
  | .i2l => fx_ui (fun x => .long x.toInt64) (pc + 1)
  | .l2i => fx_ul (fun x => .int x.toInt32) (pc + 1)
  | .lcmp => fx_lcmp (pc + 1)
  | .ifCond cd off => fx_if0 cd pc off
  | .if_icmp cd off => fx_if cd pc off
  | .goto off => fx_goto pc off
  | _ => fun _ _ => none
def fx_ad (ps : List (Nat × ClassId)) (j : Nat) : Nat := match ps[j]? with
  | some q => q.1
  | none => 0
def fx_v (ps : List (Nat × ClassId)) (v : Value) : Value := match v with
  | .ref j => .ref (fx_ad ps j)
  | v => v
theorem fx_v_cat (ps : List (Nat × ClassId)) (v : Value) : (fx_v ps v).category = v.category := by cases v <;> rfl
theorem fx_v_kd {ps : List (Nat × ClassId)} {v : Value} : (fx_kd v = 0 → ∃ x, v = .int x) ∧ (fx_kd v = 1 → ∃ x, v = .long x) ∧ (fx_kd v = 2 → ∃ x, v = .ref x) := by
  cases v <;> simp [fx_kd]
abbrev fx_lm (ps : List (Nat × ClassId)) (lc : fx_L) : List (Nat × Value) := lc.map (fun q => (q.1, fx_v ps q.2))
theorem fx_get_ok {ps : List (Nat × ClassId)} {k : Nat} {v : Value} : ∀ {lc : fx_L}, fx_get lc k = some v → (k, fx_v ps v) ∈ fx_lm ps lc := by
  intro lc
  induction lc with
  | nil => intro h; cases h
  | cons q r ih =>
    intro h
    unfold fx_get at h
    cases hb : Nat.beq q.1 k with
    | true =>
      rw [hb] at h
      obtain rfl := Option.some.inj (show some q.2 = some v from h)
      obtain rfl := Nat.eq_of_beq_eq_true hb
      exact List.mem_cons_self
    | false =>
      rw [hb] at h
      exact List.mem_cons_of_mem _ (ih h)
theorem fx_st1_lm (ps : List (Nat × ClassId)) (lc : fx_L) (i : Nat) (v : Value) : fx_lm ps (fx_st1 lc i v) = (i, fx_v ps v) :: (fx_lm ps lc).filter (fun q => !(q.1 == i) && !(q.1 + 1 == i && q.2.category == 2)) := by
  show (i, fx_v ps v) :: (lc.filter _).map _ = _
  congr 1
  rw [List.filter_map]
  congr 1
  apply List.filter_congr
  intro q _
  show _ = (!(q.1 == i) && !(q.1 + 1 == i && (fx_v ps q.2).category == 2))
  rw [fx_v_cat]
theorem fx_st2_lm (ps : List (Nat × ClassId)) (lc : fx_L) (i : Nat) (v : Value) : fx_lm ps (fx_st2 lc i v) = (i, fx_v ps v) :: (fx_lm ps lc).filter (fun q => !(q.1 == i) && (!(q.1 == i + 1) && !(q.1 + 1 == i && q.2.category == 2))) := by
  show (i, fx_v ps v) :: (lc.filter _).map _ = _
  congr 1
  rw [List.filter_map]
  congr 1
  apply List.filter_congr
  intro q _
  show _ = (!(q.1 == i) && (!(q.1 == i + 1) && !(q.1 + 1 == i && (fx_v ps q.2).category == 2)))
  rw [fx_v_cat]
theorem fx_if_inv {b : Bool} {α : Type} {x y : α} (h : cond b (some x) none = some y) : b = true ∧ x = y := by
  cases b with
  | true => exact ⟨rfl, Option.some.inj h⟩
  | false => cases h
section FXP
variable {p : Program} {l : Launch} {e : Env} {R : Room} {s : State} {m : MethodId} {args : Array Value} {below : List Frame} {meth : Method} {c : Code} {Q : State → Prop} {cc : ByteArray}
set_option maxHeartbeats 8000000 in
theorem fx_pure_ok (ps : List (Nat × ClassId)) (hx : p.tables.exec = Jvm.exec) (hb : c.code = cc) {nL pc : Nat} {ins : Instr} {len : Nat} (hdg : decode cc pc = .ok (ins, len)) (hlen : rk_len ins len = true) {lc : fx_L} {stk : List Value} {zz : Nat × fx_L × List Value} (h : fx_pure nL pc ins lc stk = some zz) {H : Heap} {locs : List Loc} {ls : Array Slot} (hl : lv_has ls nL (fx_lm ps lc)) (kk : ∀ ls' : Array Slot, lv_has ls' nL (fx_lm ps zz.2.1) → rk_KW p l e R s m args below meth c Q zz.1 ls' (zz.2.2.map (fx_v ps)) H locs 0 0) : rk_KW p l e R s m args below meth c Q pc ls (stk.map (fx_v ps)) H locs 0 0 := by
  cases ins
  case iconst n =>
    simp [rk_len] at hlen; subst hlen
    change fx_push (pc + 1) (.int (Int32.ofInt n)) lc stk = some zz at h
    obtain rfl := Option.some.inj h
    refine lv_iconst (v := Int32.ofInt n) hx hb hdg rfl ?_
    exact kk ls hl
  case bipush n =>
    simp [rk_len] at hlen; subst hlen
    change fx_push (pc + 2) (.int (Int8.ofInt n).toInt32) lc stk = some zz at h
    obtain rfl := Option.some.inj h
    refine lv_bipush (v := (Int8.ofInt n).toInt32) hx hb hdg rfl ?_
    exact kk ls hl
  case sipush n =>
    simp [rk_len] at hlen; subst hlen
    change fx_push (pc + 3) (.int (Int16.ofInt n).toInt32) lc stk = some zz at h
    obtain rfl := Option.some.inj h
    refine lv_sipush (v := (Int16.ofInt n).toInt32) hx hb hdg rfl ?_
    exact kk ls hl
  case lconst n =>
    simp [rk_len] at hlen; subst hlen
    change fx_push (pc + 1) (.long (Int64.ofNat (n : Nat))) lc stk = some zz at h
    obtain rfl := Option.some.inj h
    refine lv_lconst (v := Int64.ofNat (n : Nat)) hx hb hdg rfl ?_
    exact kk ls hl
  case iload_n k =>
    simp [rk_len] at hlen; subst hlen
    change fx_f_ld (pc + 1) k 0 lc stk = some zz at h
    unfold fx_f_ld at h
    split at h
    · next v hv0 =>
      obtain ⟨hk, rfl⟩ := fx_if_inv h
      obtain ⟨x, rfl⟩ := (fx_v_kd (ps := ps) (v := v)).1 (Nat.eq_of_beq_eq_true hk)
      have hv := fx_get_ok (ps := ps) hv0
      refine lv_iload_n hx hb hdg rfl (hl.2.2 _ hv) ?_
      exact kk ls hl
    · cases h
  case iload k =>
    simp [rk_len] at hlen; subst hlen
    change fx_f_ld (pc + 2) k 0 lc stk = some zz at h
    unfold fx_f_ld at h
    split at h
    · next v hv0 =>
      obtain ⟨hk, rfl⟩ := fx_if_inv h
      obtain ⟨x, rfl⟩ := (fx_v_kd (ps := ps) (v := v)).1 (Nat.eq_of_beq_eq_true hk)
      have hv := fx_get_ok (ps := ps) hv0
      refine lv_iload hx hb hdg (hl.2.2 _ hv) ?_
      exact kk ls hl
    · cases h
  case lload_n k =>
    simp [rk_len] at hlen; subst hlen
    change fx_f_ld (pc + 1) k 1 lc stk = some zz at h
    unfold fx_f_ld at h
    split at h
    · next v hv0 =>
      obtain ⟨hk, rfl⟩ := fx_if_inv h
      obtain ⟨x, rfl⟩ := (fx_v_kd (ps := ps) (v := v)).2.1 (Nat.eq_of_beq_eq_true hk)
      have hv := fx_get_ok (ps := ps) hv0
      refine lv_lload_n hx hb hdg rfl (hl.2.2 _ hv) ?_
      exact kk ls hl
    · cases h
  case lload k =>
    simp [rk_len] at hlen; subst hlen
    change fx_f_ld (pc + 2) k 1 lc stk = some zz at h
    unfold fx_f_ld at h
    split at h
    · next v hv0 =>
      obtain ⟨hk, rfl⟩ := fx_if_inv h
      obtain ⟨x, rfl⟩ := (fx_v_kd (ps := ps) (v := v)).2.1 (Nat.eq_of_beq_eq_true hk)
      have hv := fx_get_ok (ps := ps) hv0
      refine lv_lload hx hb hdg (hl.2.2 _ hv) ?_
      exact kk ls hl
    · cases h
  case aload_n k =>
    simp [rk_len] at hlen; subst hlen
    change fx_f_ld (pc + 1) k 2 lc stk = some zz at h
    unfold fx_f_ld at h
    split at h
    · next v hv0 =>
      obtain ⟨hk, rfl⟩ := fx_if_inv h
      obtain ⟨x, rfl⟩ := (fx_v_kd (ps := ps) (v := v)).2.2 (Nat.eq_of_beq_eq_true hk)
      have hv := fx_get_ok (ps := ps) hv0
      refine lv_aload_n hx hb hdg rfl (hl.2.2 _ hv) ?_
      exact kk ls hl
    · cases h
  case aload k =>
    simp [rk_len] at hlen; subst hlen
    change fx_f_ld (pc + 2) k 2 lc stk = some zz at h
    unfold fx_f_ld at h
    split at h
    · next v hv0 =>
      obtain ⟨hk, rfl⟩ := fx_if_inv h
      obtain ⟨x, rfl⟩ := (fx_v_kd (ps := ps) (v := v)).2.2 (Nat.eq_of_beq_eq_true hk)
      have hv := fx_get_ok (ps := ps) hv0
      refine lv_aload hx hb hdg (hl.2.2 _ hv) ?_
      exact kk ls hl
    · cases h
  case istore_n k =>
    simp [rk_len] at hlen; subst hlen
    change fx_f_st nL (pc + 1) k 0 lc stk = some zz at h
    unfold fx_f_st at h
    split at h
    · next v r =>
      obtain ⟨hk0, rfl⟩ := fx_if_inv h
      rw [Bool.and_eq_true] at hk0
      obtain ⟨x, rfl⟩ := (fx_v_kd (ps := ps) (v := v)).1 (Nat.eq_of_beq_eq_true hk0.1)
      have hk : k < nL := Nat.le_of_ble_eq_true hk0.2
      refine lv_istore_n hx hb hdg rfl hl hk rfl (fun ls' hl' => ?_)
      exact kk ls' (by rw [fx_st1_lm]; exact hl')
    · cases h
  case istore k =>
    simp [rk_len] at hlen; subst hlen
    change fx_f_st nL (pc + 2) k 0 lc stk = some zz at h
    unfold fx_f_st at h
    split at h
    · next v r =>
      obtain ⟨hk0, rfl⟩ := fx_if_inv h
      rw [Bool.and_eq_true] at hk0
      obtain ⟨x, rfl⟩ := (fx_v_kd (ps := ps) (v := v)).1 (Nat.eq_of_beq_eq_true hk0.1)
      have hk : k < nL := Nat.le_of_ble_eq_true hk0.2
      refine lv_istore hx hb hdg hl hk rfl (fun ls' hl' => ?_)
      exact kk ls' (by rw [fx_st1_lm]; exact hl')
    · cases h
  case astore_n k =>
    simp [rk_len] at hlen; subst hlen
    change fx_f_st nL (pc + 1) k 2 lc stk = some zz at h
    unfold fx_f_st at h
    split at h
    · next v r =>
      obtain ⟨hk0, rfl⟩ := fx_if_inv h
      rw [Bool.and_eq_true] at hk0
      obtain ⟨x, rfl⟩ := (fx_v_kd (ps := ps) (v := v)).2.2 (Nat.eq_of_beq_eq_true hk0.1)
      have hk : k < nL := Nat.le_of_ble_eq_true hk0.2
      refine lv_astore_n hx hb hdg rfl hl hk rfl (fun ls' hl' => ?_)
      exact kk ls' (by rw [fx_st1_lm]; exact hl')
    · cases h
  case astore k =>
    simp [rk_len] at hlen; subst hlen
    change fx_f_st nL (pc + 2) k 2 lc stk = some zz at h
    unfold fx_f_st at h
    split at h
    · next v r =>
      obtain ⟨hk0, rfl⟩ := fx_if_inv h
      rw [Bool.and_eq_true] at hk0
      obtain ⟨x, rfl⟩ := (fx_v_kd (ps := ps) (v := v)).2.2 (Nat.eq_of_beq_eq_true hk0.1)
      have hk : k < nL := Nat.le_of_ble_eq_true hk0.2
      refine lv_astore hx hb hdg hl hk rfl (fun ls' hl' => ?_)
      exact kk ls' (by rw [fx_st1_lm]; exact hl')
    · cases h
  case lstore_n k =>
    simp [rk_len] at hlen; subst hlen
    change fx_f_st2 nL (pc + 1) k lc stk = some zz at h
    unfold fx_f_st2 at h
    split at h
    · next v r =>
      obtain ⟨hk0, rfl⟩ := fx_if_inv h
      rw [Bool.and_eq_true] at hk0
      obtain ⟨x, rfl⟩ := (fx_v_kd (ps := ps) (v := v)).2.1 (Nat.eq_of_beq_eq_true hk0.1)
      have hk : k + 1 < nL := Nat.le_of_ble_eq_true hk0.2
      refine lv_lstore_n hx hb hdg rfl hl hk rfl (fun ls' hl' => ?_)
      exact kk ls' (by rw [fx_st2_lm]; exact hl')
    · cases h
  case lstore k =>
    simp [rk_len] at hlen; subst hlen
    change fx_f_st2 nL (pc + 2) k lc stk = some zz at h
    unfold fx_f_st2 at h
    split at h
    · next v r =>
      obtain ⟨hk0, rfl⟩ := fx_if_inv h
      rw [Bool.and_eq_true] at hk0
      obtain ⟨x, rfl⟩ := (fx_v_kd (ps := ps) (v := v)).2.1 (Nat.eq_of_beq_eq_true hk0.1)
      have hk : k + 1 < nL := Nat.le_of_ble_eq_true hk0.2
      refine lv_lstore hx hb hdg hl hk rfl (fun ls' hl' => ?_)
      exact kk ls' (by rw [fx_st2_lm]; exact hl')
    · cases h
  case iinc i n =>
    simp [rk_len] at hlen; subst hlen
    change fx_f_inc nL (pc + 3) i n lc stk = some zz at h
    unfold fx_f_inc at h
    split at h
    · next x hv0 =>
      obtain ⟨hk0, rfl⟩ := fx_if_inv h
      have hk : i < nL := Nat.le_of_ble_eq_true hk0
      obtain ⟨kq, hkq⟩ := List.getElem?_of_mem (fx_get_ok (ps := ps) hv0)
      refine lv_iinc hx hb hdg hl hkq rfl hk rfl (fun ls' hl' => ?_)
      exact kk ls' (by rw [fx_st1_lm]; exact hl')
    · cases h
  case dup =>
    simp [rk_len] at hlen; subst hlen
    change fx_dup (pc + 1) lc stk = some zz at h
    unfold fx_dup at h
    split at h
    · next v r =>
      obtain ⟨hk, rfl⟩ := fx_if_inv h
      refine lv_dup hx hb hdg (by rw [fx_v_cat]; exact Nat.eq_of_beq_eq_true hk) ?_
      exact kk ls hl
    · cases h
  case dup2 =>
    simp [rk_len] at hlen; subst hlen
    change fx_dup2 (pc + 1) lc stk = some zz at h
    unfold fx_dup2 at h
    split at h
    · next a b r =>
      cases hb1 : (Nat.beq a.category 1 && Nat.beq b.category 1) with
      | true =>
        rw [hb1] at h
        obtain rfl := Option.some.inj h
        rw [Bool.and_eq_true] at hb1
        refine lv_dup2_11 hx hb hdg (by rw [fx_v_cat]; exact Nat.eq_of_beq_eq_true hb1.1) (by rw [fx_v_cat]; exact Nat.eq_of_beq_eq_true hb1.2) ?_
        exact kk ls hl
      | false =>
        rw [hb1] at h
        obtain ⟨hk, rfl⟩ := fx_if_inv (show cond (Nat.beq a.category 2) (some _) none = some zz from h)
        refine lv_dup2_2 hx hb hdg (by rw [fx_v_cat]; exact Nat.eq_of_beq_eq_true hk) ?_
        exact kk ls hl
    · cases h
  case pop =>
    simp [rk_len] at hlen; subst hlen
    change fx_pop (pc + 1) 1 lc stk = some zz at h
    unfold fx_pop at h
    split at h
    · next v r =>
      obtain ⟨hk, rfl⟩ := fx_if_inv h
      refine lv_pop hx hb hdg (by rw [fx_v_cat]; exact Nat.eq_of_beq_eq_true hk) ?_
      exact kk ls hl
    · cases h
  case pop2 =>
    simp [rk_len] at hlen; subst hlen
    change fx_pop (pc + 1) 2 lc stk = some zz at h
    unfold fx_pop at h
    split at h
    · next v r =>
      obtain ⟨hk, rfl⟩ := fx_if_inv h
      refine lv_pop2_2 hx hb hdg (by rw [fx_v_cat]; exact Nat.eq_of_beq_eq_true hk) ?_
      exact kk ls hl
    · cases h
  case iadd =>
    simp [rk_len] at hlen; subst hlen
    change fx_bi (fun x y => x + y) (pc + 1) lc stk = some zz at h
    unfold fx_bi at h
    split at h
    · next y x r =>
      obtain rfl := Option.some.inj h
      refine lv_iadd hx hb hdg  ?_
      exact kk ls hl
    · cases h
  case isub =>
    simp [rk_len] at hlen; subst hlen
    change fx_bi (fun x y => x - y) (pc + 1) lc stk = some zz at h
    unfold fx_bi at h
    split at h
    · next y x r =>
      obtain rfl := Option.some.inj h
      refine lv_isub hx hb hdg  ?_
      exact kk ls hl
    · cases h
  case imul =>
    simp [rk_len] at hlen; subst hlen
    change fx_bi (fun x y => x * y) (pc + 1) lc stk = some zz at h
    unfold fx_bi at h
    split at h
    · next y x r =>
      obtain rfl := Option.some.inj h
      refine lv_imul hx hb hdg  ?_
      exact kk ls hl
    · cases h
  case iand =>
    simp [rk_len] at hlen; subst hlen
    change fx_bi (fun x y => x &&& y) (pc + 1) lc stk = some zz at h
    unfold fx_bi at h
    split at h
    · next y x r =>
      obtain rfl := Option.some.inj h
      refine lv_iand hx hb hdg  ?_
      exact kk ls hl
    · cases h
  case ior =>
    simp [rk_len] at hlen; subst hlen
    change fx_bi (fun x y => x ||| y) (pc + 1) lc stk = some zz at h
    unfold fx_bi at h
    split at h
    · next y x r =>
      obtain rfl := Option.some.inj h
      refine lv_ior hx hb hdg  ?_
      exact kk ls hl
    · cases h
  case ixor =>
    simp [rk_len] at hlen; subst hlen
    change fx_bi (fun x y => x ^^^ y) (pc + 1) lc stk = some zz at h
    unfold fx_bi at h
    split at h
    · next y x r =>
      obtain rfl := Option.some.inj h
      refine lv_ixor hx hb hdg  ?_
      exact kk ls hl
    · cases h
  case ishl =>
    simp [rk_len] at hlen; subst hlen
    change fx_bi (fun x y => x <<< (y &&& 31)) (pc + 1) lc stk = some zz at h
    unfold fx_bi at h
    split at h
    · next y x r =>
      obtain rfl := Option.some.inj h
      refine lv_ishl hx hb hdg  ?_
      exact kk ls hl
    · cases h
  case ishr =>
    simp [rk_len] at hlen; subst hlen
    change fx_bi (fun x y => x >>> (y &&& 31)) (pc + 1) lc stk = some zz at h
    unfold fx_bi at h
    split at h
    · next y x r =>
      obtain rfl := Option.some.inj h
      refine lv_ishr hx hb hdg  ?_
      exact kk ls hl
    · cases h
  case iushr =>
    simp [rk_len] at hlen; subst hlen
    change fx_bi (fun x y => (x.toUInt32 >>> (y.toUInt32 &&& Int32.toUInt32 31)).toInt32) (pc + 1) lc stk = some zz at h
    unfold fx_bi at h
    split at h
    · next y x r =>
      obtain rfl := Option.some.inj h
      refine lv_iushr hx hb hdg rfl ?_
      exact kk ls hl
    · cases h
  case idiv =>
    simp [rk_len] at hlen; subst hlen
    change fx_bz (fun x y => x / y) (pc + 1) lc stk = some zz at h
    unfold fx_bz at h
    split at h
    · next y x r =>
      split at h
      · cases h
      · next hne =>
        obtain rfl := Option.some.inj h
        refine lv_idiv hx hb hdg hne ?_
        exact kk ls hl
    · cases h
  case irem =>
    simp [rk_len] at hlen; subst hlen
    change fx_bz (fun x y => x - x / y * y) (pc + 1) lc stk = some zz at h
    unfold fx_bz at h
    split at h
    · next y x r =>
      split at h
      · cases h
      · next hne =>
        obtain rfl := Option.some.inj h
        refine lv_irem hx hb hdg hne ?_
        exact kk ls hl
    · cases h
  case ladd =>
    simp [rk_len] at hlen; subst hlen
    change fx_bl (fun x y => x + y) (pc + 1) lc stk = some zz at h
    unfold fx_bl at h
    split at h
    · next y x r =>
      obtain rfl := Option.some.inj h
      refine lv_ladd hx hb hdg  ?_
      exact kk ls hl
    · cases h
  case lsub =>
    simp [rk_len] at hlen; subst hlen
    change fx_bl (fun x y => x - y) (pc + 1) lc stk = some zz at h
    unfold fx_bl at h
    split at h
    · next y x r =>
      obtain rfl := Option.some.inj h
      refine lv_lsub hx hb hdg  ?_
      exact kk ls hl
    · cases h
  case lmul =>
    simp [rk_len] at hlen; subst hlen
    change fx_bl (fun x y => x * y) (pc + 1) lc stk = some zz at h
    unfold fx_bl at h
    split at h
    · next y x r =>
      obtain rfl := Option.some.inj h
      refine lv_lmul hx hb hdg  ?_
      exact kk ls hl
    · cases h
  case land =>
    simp [rk_len] at hlen; subst hlen
    change fx_bl (fun x y => x &&& y) (pc + 1) lc stk = some zz at h
    unfold fx_bl at h
    split at h
    · next y x r =>
      obtain rfl := Option.some.inj h
      refine lv_land hx hb hdg  ?_
      exact kk ls hl
    · cases h
  case lor =>
    simp [rk_len] at hlen; subst hlen
    change fx_bl (fun x y => x ||| y) (pc + 1) lc stk = some zz at h
    unfold fx_bl at h
    split at h
    · next y x r =>
      obtain rfl := Option.some.inj h
      refine lv_lor hx hb hdg  ?_
      exact kk ls hl
    · cases h
  case lxor =>
    simp [rk_len] at hlen; subst hlen
    change fx_bl (fun x y => x ^^^ y) (pc + 1) lc stk = some zz at h
    unfold fx_bl at h
    split at h
    · next y x r =>
      obtain rfl := Option.some.inj h
      refine lv_lxor hx hb hdg  ?_
      exact kk ls hl
    · cases h
  case ldiv =>
    simp [rk_len] at hlen; subst hlen
    change fx_blz (fun x y => x / y) (pc + 1) lc stk = some zz at h
    unfold fx_blz at h
    split at h
    · next y x r =>
      split at h
      · cases h
      · next hne =>
        obtain rfl := Option.some.inj h
        refine lv_ldiv hx hb hdg hne ?_
        exact kk ls hl
    · cases h
  case lrem =>
    simp [rk_len] at hlen; subst hlen
    change fx_blz (fun x y => x - x / y * y) (pc + 1) lc stk = some zz at h
    unfold fx_blz at h
    split at h
    · next y x r =>
      split at h
      · cases h
      · next hne =>
        obtain rfl := Option.some.inj h
        refine lv_lrem hx hb hdg hne ?_
        exact kk ls hl
    · cases h
  case lshl =>
    simp [rk_len] at hlen; subst hlen
    change fx_sh (fun x y => x <<< (y.toInt64 &&& 63)) (pc + 1) lc stk = some zz at h
    unfold fx_sh at h
    split at h
    · next y x r =>
      obtain rfl := Option.some.inj h
      refine lv_lshl hx hb hdg rfl ?_
      exact kk ls hl
    · cases h
  case lshr =>
    simp [rk_len] at hlen; subst hlen
    change fx_sh (fun x y => x >>> (y.toInt64 &&& 63)) (pc + 1) lc stk = some zz at h
    unfold fx_sh at h
    split at h
    · next y x r =>
      obtain rfl := Option.some.inj h
      refine lv_lshr hx hb hdg rfl ?_
      exact kk ls hl
    · cases h
  case lushr =>
    simp [rk_len] at hlen; subst hlen
    change fx_sh (fun x y => (x.toUInt64 >>> (y.toInt64.toUInt64 &&& Int64.toUInt64 63)).toInt64) (pc + 1) lc stk = some zz at h
    unfold fx_sh at h
    split at h
    · next y x r =>
      obtain rfl := Option.some.inj h
      refine lv_lushr hx hb hdg rfl ?_
      exact kk ls hl
    · cases h
  case ineg =>
    simp [rk_len] at hlen; subst hlen
    change fx_ui (fun x => .int (-x)) (pc + 1) lc stk = some zz at h
    unfold fx_ui at h
    split at h
    · next x r =>
      obtain rfl := Option.some.inj h
      refine lv_ineg hx hb hdg  ?_
      exact kk ls hl
    · cases h
  case i2b =>
    simp [rk_len] at hlen; subst hlen
    change fx_ui (fun x => .int (x.toInt8.toInt32)) (pc + 1) lc stk = some zz at h
    unfold fx_ui at h
    split at h
    · next x r =>
      obtain rfl := Option.some.inj h
      refine lv_i2b hx hb hdg rfl ?_
      exact kk ls hl
    · cases h
  case i2s =>
    simp [rk_len] at hlen; subst hlen
    change fx_ui (fun x => .int (x.toInt16.toInt32)) (pc + 1) lc stk = some zz at h
    unfold fx_ui at h
    split at h
    · next x r =>
      obtain rfl := Option.some.inj h
      refine lv_i2s hx hb hdg rfl ?_
      exact kk ls hl
    · cases h
  case i2l =>
    simp [rk_len] at hlen; subst hlen
    change fx_ui (fun x => .long x.toInt64) (pc + 1) lc stk = some zz at h
    unfold fx_ui at h
    split at h
    · next x r =>
      obtain rfl := Option.some.inj h
      refine lv_i2l hx hb hdg rfl ?_
      exact kk ls hl
    · cases h
  case l2i =>
    simp [rk_len] at hlen; subst hlen
    change fx_ul (fun x => .int x.toInt32) (pc + 1) lc stk = some zz at h
    unfold fx_ul at h
    split at h
    · next x r =>
      obtain rfl := Option.some.inj h
      refine lv_l2i hx hb hdg rfl ?_
      exact kk ls hl
    · cases h
  case lcmp =>
    simp [rk_len] at hlen; subst hlen
    change fx_lcmp (pc + 1) lc stk = some zz at h
    unfold fx_lcmp at h
    split at h
    · next y x r =>
      obtain rfl := Option.some.inj h
      refine W.lcmp hx hb hdg ?_
      exact kk ls hl
    · cases h
  case ifCond cd off =>
    simp [rk_len] at hlen; subst hlen
    change fx_if0 cd pc off lc stk = some zz at h
    unfold fx_if0 at h
    split at h
    · next x r =>
      obtain ⟨hpos, rfl⟩ := fx_if_inv h
      have hpos := of_decide_eq_true hpos
      have ht : (pc : Int) + off = ((((pc : Int) + off).toNat : Nat) : Int) := by omega
      have k1 : fx_cb cd x 0 = true → rk_KW p l e R s m args below meth c Q (fx_to pc off) ls (r.map (fx_v ps)) H locs 0 0 := fun q => by
        have := kk ls hl
        rw [q] at this
        exact this
      have k2 : fx_cb cd x 0 = false → rk_KW p l e R s m args below meth c Q (pc + 3) ls (r.map (fx_v ps)) H locs 0 0 := fun q => by
        have := kk ls hl
        rw [q] at this
        exact this
      cases cd
      case eq => exact lv_if_eq hx hb hdg ht (fun q => k1 (decide_eq_true q)) (fun q => k2 (decide_eq_false q))
      case ne => exact lv_if_ne hx hb hdg ht (fun q => k1 (by show (!decide (x = 0)) = true; rw [decide_eq_false q]; rfl)) (fun q => k2 (by show (!decide (x = 0)) = false; rw [decide_eq_true q]; rfl))
      case lt => exact lv_if_lt hx hb hdg ht (fun q => k1 (decide_eq_true q)) (fun q => k2 (decide_eq_false q))
      case ge => exact lv_if_ge hx hb hdg ht (fun q => k1 (decide_eq_true q)) (fun q => k2 (decide_eq_false q))
      case gt => exact lv_if_gt hx hb hdg ht (fun q => k1 (decide_eq_true q)) (fun q => k2 (decide_eq_false q))
      case le => exact lv_if_le hx hb hdg ht (fun q => k1 (decide_eq_true q)) (fun q => k2 (decide_eq_false q))
    · cases h
  case if_icmp cd off =>
    simp [rk_len] at hlen; subst hlen
    change fx_if cd pc off lc stk = some zz at h
    unfold fx_if at h
    split at h
    · next y x r =>
      obtain ⟨hpos, rfl⟩ := fx_if_inv h
      have hpos := of_decide_eq_true hpos
      have ht : (pc : Int) + off = ((((pc : Int) + off).toNat : Nat) : Int) := by omega
      have k1 : fx_cb cd x y = true → rk_KW p l e R s m args below meth c Q (fx_to pc off) ls (r.map (fx_v ps)) H locs 0 0 := fun q => by
        have := kk ls hl
        rw [q] at this
        exact this
      have k2 : fx_cb cd x y = false → rk_KW p l e R s m args below meth c Q (pc + 3) ls (r.map (fx_v ps)) H locs 0 0 := fun q => by
        have := kk ls hl
        rw [q] at this
        exact this
      cases cd
      case eq => exact lv_icmp_eq hx hb hdg ht (fun q => k1 (decide_eq_true q)) (fun q => k2 (decide_eq_false q))
      case ne => exact lv_icmp_ne hx hb hdg ht (fun q => k1 (by show (!decide (x = y)) = true; rw [decide_eq_false q]; rfl)) (fun q => k2 (by show (!decide (x = y)) = false; rw [decide_eq_true q]; rfl))
      case lt => exact lv_icmp_lt hx hb hdg ht (fun q => k1 (decide_eq_true q)) (fun q => k2 (decide_eq_false q))
      case ge => exact lv_icmp_ge hx hb hdg ht (fun q => k1 (decide_eq_true q)) (fun q => k2 (decide_eq_false q))
      case gt => exact lv_icmp_gt hx hb hdg ht (fun q => k1 (decide_eq_true q)) (fun q => k2 (decide_eq_false q))
      case le => exact lv_icmp_le hx hb hdg ht (fun q => k1 (decide_eq_true q)) (fun q => k2 (decide_eq_false q))
    · cases h
  case goto off =>
    simp [rk_len] at hlen; subst hlen
    change fx_goto pc off lc stk = some zz at h
    obtain ⟨hpos, rfl⟩ := fx_if_inv h
    have hpos := of_decide_eq_true hpos
    exact lv_goto (tgt := fx_to pc off) hx hb hdg (by unfold fx_to; omega) (kk ls hl)
  all_goals exact absurd h (fun z => nomatch z)
end FXP
end MH40_5
section MH40_6
/-! ===== the one text of the class: what is known of it; the JDK's length and charAt over it ===== -/
def sk_b : List Int32 := [32, 105, 99, 101, 32, 115, 104, 111, 114, 101, 32, 119, 97, 121, 32, 98, 101, 115, 105, 100, 101, 32, 119, 97, 108, 107, 101, 114, 32, 119, 111, 114, 115, 101, 32, 104, 111, 117, 114, 32, 98, 101, 116, 116, 101, 114, 32, 98, 101, 97, 114, 115, 32, 119, 101, 105, 103, 104, 115, 32, 97, 116, 32, 115, 101, 110, 100, 32, 115, 116, 101, 112, 32, 102, 114, 111, 115, 116, 32, 116, 104, 97, 119, 32, 97, 110, 121, 32, 116, 111, 32, 105, 110, 32, 119, 104, 101, 110, 32, 108, 111, 111, 112, 32, 101, 110, 100, 32, 115, 116, 111, 112, 32, 119, 101, 116, 32]
def sk_n : Nat := 117
def sk_X (a v : Nat) (A : Nat → Prop) (U : State) (H : Heap) : Prop := va_O "java/lang/String" a A U H ∧ va_OF "java/lang/String" "coder" "B" (.int 0) a A U H ∧ va_OF "java/lang/String" "value" "[B" (.ref v) a A U H ∧ va_T .byte v sk_n (fun j => .int (sk_b.getD j 0)) A U H ∧ va_Z "java/lang/String" "COMPACT_STRINGS" "Z" (.int 1) A U H ∧ va_Zq "jdk/internal/util/Preconditions" "SIOOBE_FORMATTER" "Ljava/util/function/BiFunction;" A U H
theorem sk_X.moved {a v : Nat} {A : Nat → Prop} {u U : State} {H : Heap} (hvm : u.vm.Alike U.vm) (h : sk_X a v A u H) : sk_X a v A U H := ⟨va_O.moved hvm h.1, va_OF.moved hvm h.2.1, va_OF.moved hvm h.2.2.1, va_T.moved hvm h.2.2.2.1, va_Z.moved hvm h.2.2.2.2.1, va_Zq.moved hvm h.2.2.2.2.2⟩
theorem sk_X.kept {a v : Nat} {A : Nat → Prop} {U : State} {H H1 : Heap} (h : sk_X a v A U H) (hq : ∀ a : Nat, a < H.size → ¬ A a → H1[a]? = H[a]?) : sk_X a v A U H1 := ⟨h.1.kept hq, h.2.1.kept hq, h.2.2.1.kept hq, h.2.2.2.1.kept hq, h.2.2.2.2.1.kept hq, h.2.2.2.2.2.kept hq⟩
theorem sk_X.narrow {a v : Nat} {A B : Nat → Prop} {U : State} {H : Heap} (h : sk_X a v A U H) (hAB : ∀ q, B q → A q) : sk_X a v B U H := ⟨h.1.narrow hAB, h.2.1.narrow hAB, h.2.2.1.narrow hAB, h.2.2.2.1.narrow hAB, h.2.2.2.2.1.narrow hAB, h.2.2.2.2.2.narrow hAB⟩
theorem sk_pre {a v : Nat} {A : Nat → Prop} {s U : State} {H : Heap} {locs : List Loc} (h : sk_X a v A s s.heap) (hS : va_S A s.heap H locs) (hA : ∀ q, s.heap.size ≤ q → A q) (hU : U.heap = H) (hW : s.WarmedH U.vm) : sk_X a v (fun q => H.size ≤ q) U U.heap := by
  rw [hU]
  exact ((h.kept hS.2.1).narrow (fun q hq => hA q (Nat.le_trans hS.1 hq))).moved hW.alike
def sk_Pc (av : List Value) (a v sz : Nat) : Array Value → State → Prop := fun w U => w = av.toArray ∧ U.heap.size = sz ∧ sk_X a v (fun q => sz ≤ q) U U.heap
theorem sk_blind (av : List Value) (a v sz : Nat) : FrameBlind (sk_Pc av a v sz) := fun w U g mk q => ⟨q.1, q.2.1, sk_X.moved (u := U) (U := U.calling g mk w) (Vm.Alike.refl U.vm) q.2.2⟩
abbrev sk_Q (r : Int32) (sz : Nat) : Array Value → State → Outcome → State → Prop := va_Qi (S := Unit) (fun r' _ => r' = r) (fun _ _ => True) (fun q => sz ≤ q)
abbrev sk_Qv (sz : Nat) : Array Value → State → Outcome → State → Prop := va_Qv (S := Unit) (fun _ => True) (fun _ _ => True) (fun q => sz ≤ q)
theorem sk_d377_0 : decode gk_N377.2.2 0 = .ok (.aload_n 0, 1) := by decide +kernel
theorem sk_d377_1 : decode gk_N377.2.2 1 = .ok (.getfield 9, 3) := by decide +kernel
theorem sk_d377_4 : decode gk_N377.2.2 4 = .ok (.arraylength, 1) := by decide +kernel
theorem sk_d377_5 : decode gk_N377.2.2 5 = .ok (.aload_n 0, 1) := by decide +kernel
theorem sk_d377_6 : decode gk_N377.2.2 6 = .ok (.invokevirtual 335, 3) := by decide +kernel
theorem sk_d377_9 : decode gk_N377.2.2 9 = .ok (.ishr, 1) := by decide +kernel
theorem sk_d377_10 : decode gk_N377.2.2 10 = .ok (.ireturn, 1) := by decide +kernel
theorem sk_d378_0 : decode gk_N378.2.2 0 = .ok (.aload_n 0, 1) := by decide +kernel
theorem sk_d378_1 : decode gk_N378.2.2 1 = .ok (.invokevirtual 492, 3) := by decide +kernel
theorem sk_d378_4 : decode gk_N378.2.2 4 = .ok (.ifCond .eq 12, 3) := by decide +kernel
theorem sk_d378_7 : decode gk_N378.2.2 7 = .ok (.aload_n 0, 1) := by decide +kernel
theorem sk_d378_8 : decode gk_N378.2.2 8 = .ok (.getfield 9, 3) := by decide +kernel
theorem sk_d378_11 : decode gk_N378.2.2 11 = .ok (.iload_n 1, 1) := by decide +kernel
theorem sk_d378_12 : decode gk_N378.2.2 12 = .ok (.invokestatic 495, 3) := by decide +kernel
theorem sk_d378_15 : decode gk_N378.2.2 15 = .ok (.ireturn, 1) := by decide +kernel
theorem sk_d378_16 : decode gk_N378.2.2 16 = .ok (.aload_n 0, 1) := by decide +kernel
theorem sk_d378_17 : decode gk_N378.2.2 17 = .ok (.getfield 9, 3) := by decide +kernel
theorem sk_d378_20 : decode gk_N378.2.2 20 = .ok (.iload_n 1, 1) := by decide +kernel
theorem sk_d378_21 : decode gk_N378.2.2 21 = .ok (.invokestatic 498, 3) := by decide +kernel
theorem sk_d378_24 : decode gk_N378.2.2 24 = .ok (.ireturn, 1) := by decide +kernel
theorem sk_d379_0 : decode gk_N379.2.2 0 = .ok (.getstatic 38, 3) := by decide +kernel
theorem sk_d379_3 : decode gk_N379.2.2 3 = .ok (.ifCond .eq 10, 3) := by decide +kernel
theorem sk_d379_6 : decode gk_N379.2.2 6 = .ok (.aload_n 0, 1) := by decide +kernel
theorem sk_d379_7 : decode gk_N379.2.2 7 = .ok (.getfield 15, 3) := by decide +kernel
theorem sk_d379_10 : decode gk_N379.2.2 10 = .ok (.goto 4, 3) := by decide +kernel
theorem sk_d379_13 : decode gk_N379.2.2 13 = .ok (.iconst 1, 1) := by decide +kernel
theorem sk_d379_14 : decode gk_N379.2.2 14 = .ok (.ireturn, 1) := by decide +kernel
theorem sk_d380_0 : decode gk_N380.2.2 0 = .ok (.getstatic 38, 3) := by decide +kernel
theorem sk_d380_3 : decode gk_N380.2.2 3 = .ok (.ifCond .eq 14, 3) := by decide +kernel
theorem sk_d380_6 : decode gk_N380.2.2 6 = .ok (.aload_n 0, 1) := by decide +kernel
theorem sk_d380_7 : decode gk_N380.2.2 7 = .ok (.getfield 15, 3) := by decide +kernel
theorem sk_d380_10 : decode gk_N380.2.2 10 = .ok (.ifCond .ne 7, 3) := by decide +kernel
theorem sk_d380_13 : decode gk_N380.2.2 13 = .ok (.iconst 1, 1) := by decide +kernel
theorem sk_d380_14 : decode gk_N380.2.2 14 = .ok (.goto 4, 3) := by decide +kernel
theorem sk_d380_17 : decode gk_N380.2.2 17 = .ok (.iconst 0, 1) := by decide +kernel
theorem sk_d380_18 : decode gk_N380.2.2 18 = .ok (.ireturn, 1) := by decide +kernel
theorem sk_d381_0 : decode gk_N381.2.2 0 = .ok (.iload_n 0, 1) := by decide +kernel
theorem sk_d381_1 : decode gk_N381.2.2 1 = .ok (.iload_n 1, 1) := by decide +kernel
theorem sk_d381_2 : decode gk_N381.2.2 2 = .ok (.getstatic 1053, 3) := by decide +kernel
theorem sk_d381_5 : decode gk_N381.2.2 5 = .ok (.invokestatic 1059, 3) := by decide +kernel
theorem sk_d381_8 : decode gk_N381.2.2 8 = .ok (.pop, 1) := by decide +kernel
theorem sk_d381_9 : decode gk_N381.2.2 9 = .ok (.return_, 1) := by decide +kernel
theorem sk_d382_0 : decode gk_N382.2.2 0 = .ok (.iload_n 1, 1) := by decide +kernel
theorem sk_d382_1 : decode gk_N382.2.2 1 = .ok (.aload_n 0, 1) := by decide +kernel
theorem sk_d382_2 : decode gk_N382.2.2 2 = .ok (.arraylength, 1) := by decide +kernel
theorem sk_d382_3 : decode gk_N382.2.2 3 = .ok (.invokestatic 9, 3) := by decide +kernel
theorem sk_d382_6 : decode gk_N382.2.2 6 = .ok (.aload_n 0, 1) := by decide +kernel
theorem sk_d382_7 : decode gk_N382.2.2 7 = .ok (.iload_n 1, 1) := by decide +kernel
theorem sk_d382_8 : decode gk_N382.2.2 8 = .ok (.baload, 1) := by decide +kernel
theorem sk_d382_9 : decode gk_N382.2.2 9 = .ok (.sipush 255, 3) := by decide +kernel
theorem sk_d382_12 : decode gk_N382.2.2 12 = .ok (.iand, 1) := by decide +kernel
theorem sk_d382_13 : decode gk_N382.2.2 13 = .ok (.i2c, 1) := by decide +kernel
theorem sk_d382_14 : decode gk_N382.2.2 14 = .ok (.ireturn, 1) := by decide +kernel
theorem sk_d389_0 : decode gk_N389.2.2 0 = .ok (.iload_n 0, 1) := by decide +kernel
theorem sk_d389_1 : decode gk_N389.2.2 1 = .ok (.ifCond .lt 8, 3) := by decide +kernel
theorem sk_d389_4 : decode gk_N389.2.2 4 = .ok (.iload_n 0, 1) := by decide +kernel
theorem sk_d389_5 : decode gk_N389.2.2 5 = .ok (.iload_n 1, 1) := by decide +kernel
theorem sk_d389_6 : decode gk_N389.2.2 6 = .ok (.if_icmp .lt 10, 3) := by decide +kernel
theorem sk_d389_9 : decode gk_N389.2.2 9 = .ok (.aload_n 2, 1) := by decide +kernel
theorem sk_d389_10 : decode gk_N389.2.2 10 = .ok (.iload_n 0, 1) := by decide +kernel
theorem sk_d389_11 : decode gk_N389.2.2 11 = .ok (.iload_n 1, 1) := by decide +kernel
theorem sk_d389_12 : decode gk_N389.2.2 12 = .ok (.invokestatic 95, 3) := by decide +kernel
theorem sk_d389_15 : decode gk_N389.2.2 15 = .ok (.athrow, 1) := by decide +kernel
theorem sk_d389_16 : decode gk_N389.2.2 16 = .ok (.iload_n 0, 1) := by decide +kernel
theorem sk_d389_17 : decode gk_N389.2.2 17 = .ok (.ireturn, 1) := by decide +kernel
set_option maxHeartbeats 1000000 in
theorem sk_coder (l : Launch) (a v sz : Nat) : Met l gk_y_379 (Jvm.Cond.code gk_y_379 gk_N379.2.2 1 (some .byte) :: gk_tbl) { frames := 1, cells := 0, slots := 0, locals := 40 } (sk_Pc [.ref a] a v sz) (sk_Q 0 sz) 0 0 (fun q => sz ≤ q) := by
  refine Met.ofW (cc := gk_N379.2.2) (maxL := 1) (ret := (some .byte)) (by decide +kernel) rfl ?_
  intro p e s m args below meth c s₁ B hml hv
  obtain ⟨rfl, hsz, hX⟩ := hv
  have hx := B.exec; have hb := B.bytes; have hr := B.returns; have hlocks := B.notSynchronized
  have hts : ∀ w ∈ gk_tbl, w.before (List.toArray [.ref a]) s = true := fun w hw => atoms_spec (ws := Jvm.Cond.code gk_y_379 gk_N379.2.2 1 (some .byte) :: gk_tbl) B.pre w (List.mem_cons_of_mem _ hw)
  have hown : s.vm.findClass "java/lang/String" = some m.cls := findClass_of_methodNamed B.named
  subst hsz
  have hS : va_S (fun q => s.heap.size ≤ q) s.heap s.heap [] := va_S.rf
  have hA : ∀ q : Nat, s.heap.size ≤ q → s.heap.size ≤ q := fun _ h => h
  have hX0 := hX
  obtain ⟨hO, hC, hV, hT, hZ, hF⟩ := hX
  have hl := lv_entry [.ref a] (n := 1) (Nat.le_of_ble_eq_true rfl)
  rw [lg_entry_eq]
  generalize (lg_sl [.ref a] ++ List.replicate (1 - (lg_sl [.ref a]).length) Slot.unset).toArray = ls at hl ⊢
  have hl : lv_has ls 1 [(0, .ref a)] := hl
  refine va_gets hx hb hZ hS hown (hts _ (rk_mt 267 (by decide +kernel) rfl)) (fun _ h => h) sk_d379_0 ?_
  refine lv_if_eq (tgt := 13) hx hb sk_d379_3 rfl (fun h => absurd h (by decide)) (fun _ => ?_)
  refine lv_aload_n hx hb sk_d379_6 rfl (lv_at hl 0 rfl) ?_
  refine vk_getf hx hb hC hS hown (hts _ (rk_mt 2477 (by decide +kernel) rfl)) (fun _ h => h) sk_d379_7 ?_
  refine lv_goto (tgt := 14) hx hb sk_d379_10 rfl ?_
  exact W.zret (ty := .byte) (v := 0) hx hb hr (by decide) (fun t ht hW => ⟨⟨_, (), rfl, rfl, trivial⟩, hS.F ht⟩) hS.2.2 sk_d379_14
set_option maxHeartbeats 1000000 in
theorem sk_isLatin1 (l : Launch) (a v sz : Nat) : Met l gk_y_380 (Jvm.Cond.code gk_y_380 gk_N380.2.2 1 (some .boolean) :: gk_tbl) { frames := 1, cells := 0, slots := 0, locals := 40 } (sk_Pc [.ref a] a v sz) (sk_Q 1 sz) 0 0 (fun q => sz ≤ q) := by
  refine Met.ofW (cc := gk_N380.2.2) (maxL := 1) (ret := (some .boolean)) (by decide +kernel) rfl ?_
  intro p e s m args below meth c s₁ B hml hv
  obtain ⟨rfl, hsz, hX⟩ := hv
  have hx := B.exec; have hb := B.bytes; have hr := B.returns; have hlocks := B.notSynchronized
  have hts : ∀ w ∈ gk_tbl, w.before (List.toArray [.ref a]) s = true := fun w hw => atoms_spec (ws := Jvm.Cond.code gk_y_380 gk_N380.2.2 1 (some .boolean) :: gk_tbl) B.pre w (List.mem_cons_of_mem _ hw)
  have hown : s.vm.findClass "java/lang/String" = some m.cls := findClass_of_methodNamed B.named
  subst hsz
  have hS : va_S (fun q => s.heap.size ≤ q) s.heap s.heap [] := va_S.rf
  have hA : ∀ q : Nat, s.heap.size ≤ q → s.heap.size ≤ q := fun _ h => h
  have hX0 := hX
  obtain ⟨hO, hC, hV, hT, hZ, hF⟩ := hX
  have hl := lv_entry [.ref a] (n := 1) (Nat.le_of_ble_eq_true rfl)
  rw [lg_entry_eq]
  generalize (lg_sl [.ref a] ++ List.replicate (1 - (lg_sl [.ref a]).length) Slot.unset).toArray = ls at hl ⊢
  have hl : lv_has ls 1 [(0, .ref a)] := hl
  refine va_gets hx hb hZ hS hown (hts _ (rk_mt 267 (by decide +kernel) rfl)) (fun _ h => h) sk_d380_0 ?_
  refine lv_if_eq (tgt := 17) hx hb sk_d380_3 rfl (fun h => absurd h (by decide)) (fun _ => ?_)
  refine lv_aload_n hx hb sk_d380_6 rfl (lv_at hl 0 rfl) ?_
  refine vk_getf hx hb hC hS hown (hts _ (rk_mt 2477 (by decide +kernel) rfl)) (fun _ h => h) sk_d380_7 ?_
  refine lv_if_ne (tgt := 17) hx hb sk_d380_10 rfl (fun h => absurd rfl h) (fun _ => ?_)
  refine lv_iconst (v := 1) hx hb sk_d380_13 rfl ?_
  refine lv_goto (tgt := 18) hx hb sk_d380_14 rfl ?_
  exact W.zret (ty := .boolean) (v := 1) hx hb hr (by decide) (fun t ht hW => ⟨⟨_, (), rfl, rfl, trivial⟩, hS.F ht⟩) hS.2.2 sk_d380_18
set_option maxHeartbeats 1000000 in
theorem sk_length (l : Launch) (a v sz : Nat) : Met l gk_y_377 (Jvm.Cond.code gk_y_377 gk_N377.2.2 1 (some .int) :: gk_tbl) { frames := 2, cells := 0, slots := 0, locals := 80 } (sk_Pc [.ref a] a v sz) (sk_Q (Int32.ofNat sk_n) sz) 0 0 (fun q => sz ≤ q) := by
  refine Met.ofW (cc := gk_N377.2.2) (maxL := 1) (ret := (some .int)) (by decide +kernel) rfl ?_
  intro p e s m args below meth c s₁ B hml hv
  obtain ⟨rfl, hsz, hX⟩ := hv
  have hx := B.exec; have hb := B.bytes; have hr := B.returns; have hlocks := B.notSynchronized
  have hts : ∀ w ∈ gk_tbl, w.before (List.toArray [.ref a]) s = true := fun w hw => atoms_spec (ws := Jvm.Cond.code gk_y_377 gk_N377.2.2 1 (some .int) :: gk_tbl) B.pre w (List.mem_cons_of_mem _ hw)
  have hown : s.vm.findClass "java/lang/String" = some m.cls := findClass_of_methodNamed B.named
  subst hsz
  have hS : va_S (fun q => s.heap.size ≤ q) s.heap s.heap [] := va_S.rf
  have hA : ∀ q : Nat, s.heap.size ≤ q → s.heap.size ≤ q := fun _ h => h
  have hX0 := hX
  obtain ⟨hO, hC, hV, hT, hZ, hF⟩ := hX
  have hl := lv_entry [.ref a] (n := 1) (Nat.le_of_ble_eq_true rfl)
  rw [lg_entry_eq]
  generalize (lg_sl [.ref a] ++ List.replicate (1 - (lg_sl [.ref a]).length) Slot.unset).toArray = ls at hl ⊢
  have hl : lv_has ls 1 [(0, .ref a)] := hl
  refine lv_aload_n hx hb sk_d377_0 rfl (lv_at hl 0 rfl) ?_
  refine vk_getf hx hb hV hS hown (hts _ (rk_mt 2476 (by decide +kernel) rfl)) (fun _ h => h) sk_d377_1 ?_
  refine va_tlen hx hb hT hS rfl sk_d377_4 ?_
  refine lv_aload_n hx hb sk_d377_5 rfl (lv_at hl 0 rfl) ?_
  refine va_calli (va_runV (C := "java/lang/String") (As := []) (rest := [.int (Int32.ofNat sk_n)]) ⟨hx, hb, hml, hown, hts⟩ (sk_coder l a v s.heap.size) ⟨callB_of 0 hts (rk_good gk_good (rk_mt 266 (by decide +kernel) rfl)) rfl rfl rfl (hts _ (rk_mt 223 (by decide +kernel) rfl)) (hts _ (rk_mt 263 (by decide +kernel) rfl)) ⟨(by decide +kernel), (by decide +kernel), (by decide +kernel)⟩ ⟨Nat.le_of_ble_eq_true rfl, Nat.le_of_ble_eq_true rfl⟩, hts _ (rk_mt 264 (by decide +kernel) rfl), hts _ (rk_mt 265 (by decide +kernel) rfl)⟩ ⟨sk_blind _ _ _ _, (by obtain ⟨cell, h1, h2, h3, -⟩ := hO.kept hS.2.1; exact ⟨cell, h1, h2, h3⟩), fun U hU hW => ⟨rfl, by rw [hU], sk_pre hX0 hS hA hU hW⟩⟩ rfl rfl hl.1 rfl (lv_room (Nat.le_of_ble_eq_true rfl)) sk_d377_6 ⟨Nat.zero_le _, Nat.zero_le _⟩) hS (fun q h1 h2 => absurd h2 (by omega)) (fun q h => Nat.le_trans hS.1 h) (fun r0 u t H1 locs1 ht hvm hw hB hz1 hk1 hS => ?_)
  subst hw
  refine lv_ishr hx hb sk_d377_9 ?_
  rw [show (Int32.ofNat sk_n >>> ((0 : Int32) &&& 31)) = Int32.ofNat sk_n from by decide +kernel]
  exact W.iret (v := Int32.ofNat sk_n) hx hb hr (fun t ht hW => ⟨⟨_, (), rfl, rfl, trivial⟩, hS.F ht⟩) hS.2.2 sk_d377_10
set_option maxHeartbeats 1000000 in
theorem sk_pcheck (l : Launch) (a v sz : Nat) (i n : Int32) (x : Value) (h0 : ¬ i < 0) (h1 : i < n) (hx0 : x.category = 1) : Met l gk_y_389 (Jvm.Cond.code gk_y_389 gk_N389.2.2 3 (some .int) :: gk_tbl) { frames := 1, cells := 0, slots := 0, locals := 40 } (sk_Pc [.int i, .int n, x] a v sz) (sk_Q i sz) 0 0 (fun q => sz ≤ q) := by
  refine Met.ofW (cc := gk_N389.2.2) (maxL := 3) (ret := (some .int)) (by decide +kernel) rfl ?_
  intro p e s m args below meth c s₁ B hml hv
  obtain ⟨rfl, hsz, hX⟩ := hv
  have hx := B.exec; have hb := B.bytes; have hr := B.returns; have hlocks := B.notSynchronized
  have hts : ∀ w ∈ gk_tbl, w.before (List.toArray [.int i, .int n, x]) s = true := fun w hw => atoms_spec (ws := Jvm.Cond.code gk_y_389 gk_N389.2.2 3 (some .int) :: gk_tbl) B.pre w (List.mem_cons_of_mem _ hw)
  have hown : s.vm.findClass "jdk/internal/util/Preconditions" = some m.cls := findClass_of_methodNamed B.named
  subst hsz
  have hS : va_S (fun q => s.heap.size ≤ q) s.heap s.heap [] := va_S.rf
  have hA : ∀ q : Nat, s.heap.size ≤ q → s.heap.size ≤ q := fun _ h => h
  have hX0 := hX
  obtain ⟨hO, hC, hV, hT, hZ, hF⟩ := hX
  have hl := lv_entry [.int i, .int n, x] (n := 3) (by rw [rk_lgsl]; show (1 : Nat) + (1 + (x.category + 0)) ≤ 3; rw [hx0]; decide)
  rw [lg_entry_eq]
  generalize (lg_sl [.int i, .int n, x] ++ List.replicate (3 - (lg_sl [.int i, .int n, x]).length) Slot.unset).toArray = ls at hl ⊢
  have hl : lv_has ls 3 [(0, .int i), (1, .int n), (2, x)] := hl
  refine lv_iload_n hx hb sk_d389_0 rfl (lv_at hl 0 rfl) ?_
  refine lv_if_lt (tgt := 9) hx hb sk_d389_1 rfl (fun h => absurd h h0) (fun _ => ?_)
  refine lv_iload_n hx hb sk_d389_4 rfl (lv_at hl 0 rfl) ?_
  refine lv_iload_n hx hb sk_d389_5 rfl (lv_at hl 1 rfl) ?_
  refine lv_icmp_lt (tgt := 16) hx hb sk_d389_6 rfl (fun _ => ?_) (fun h => absurd h1 h)
  refine lv_iload_n hx hb sk_d389_16 rfl (lv_at hl 0 rfl) ?_
  exact W.iret (v := i) hx hb hr (fun t ht hW => ⟨⟨_, (), rfl, rfl, trivial⟩, hS.F ht⟩) hS.2.2 sk_d389_17
set_option maxHeartbeats 1000000 in
theorem sk_check (l : Launch) (a v sz : Nat) (i n : Int32) (h0 : ¬ i < 0) (h1 : i < n) : Met l gk_y_381 (Jvm.Cond.code gk_y_381 gk_N381.2.2 2 none :: gk_tbl) { frames := 2, cells := 0, slots := 0, locals := 80 } (sk_Pc [.int i, .int n] a v sz) (sk_Qv sz) 0 0 (fun q => sz ≤ q) := by
  refine Met.ofW (cc := gk_N381.2.2) (maxL := 2) (ret := none) (by decide +kernel) rfl ?_
  intro p e s m args below meth c s₁ B hml hv
  obtain ⟨rfl, hsz, hX⟩ := hv
  have hx := B.exec; have hb := B.bytes; have hr := B.returns; have hlocks := B.notSynchronized
  have hts : ∀ w ∈ gk_tbl, w.before (List.toArray [.int i, .int n]) s = true := fun w hw => atoms_spec (ws := Jvm.Cond.code gk_y_381 gk_N381.2.2 2 none :: gk_tbl) B.pre w (List.mem_cons_of_mem _ hw)
  have hown : s.vm.findClass "java/lang/String" = some m.cls := findClass_of_methodNamed B.named
  subst hsz
  have hS : va_S (fun q => s.heap.size ≤ q) s.heap s.heap [] := va_S.rf
  have hA : ∀ q : Nat, s.heap.size ≤ q → s.heap.size ≤ q := fun _ h => h
  have hX0 := hX
  obtain ⟨hO, hC, hV, hT, hZ, hF⟩ := hX
  have hl := lv_entry [.int i, .int n] (n := 2) (Nat.le_of_ble_eq_true rfl)
  rw [lg_entry_eq]
  generalize (lg_sl [.int i, .int n] ++ List.replicate (2 - (lg_sl [.int i, .int n]).length) Slot.unset).toArray = ls at hl ⊢
  have hl : lv_has ls 2 [(0, .int i), (1, .int n)] := hl
  refine lv_iload_n hx hb sk_d381_0 rfl (lv_at hl 0 rfl) ?_
  refine lv_iload_n hx hb sk_d381_1 rfl (lv_at hl 1 rfl) ?_
  obtain ⟨x, hxc, hFx⟩ : ∃ x : Value, x.category = 1 ∧ va_Z "jdk/internal/util/Preconditions" "SIOOBE_FORMATTER" "Ljava/util/function/BiFunction;" x (fun q => s.heap.size ≤ q) s s.heap := by
    rcases hF with h | ⟨t, h⟩
    · exact ⟨_, rfl, h⟩
    · exact ⟨_, rfl, h⟩
  refine va_gets hx hb hFx hS hown (hts _ (rk_mt 283 (by decide +kernel) rfl)) (fun _ h => h) sk_d381_2 ?_
  refine va_calli (va_runS (As := [.int i, .int n, x]) (rest := []) ⟨hx, hb, hml, hown, hts⟩ (sk_pcheck l a v s.heap.size i n x h0 h1 hxc) ⟨callB_of 3 hts (rk_good gk_good (rk_mt 287 (by decide +kernel) rfl)) rfl rfl rfl (hts _ (rk_mt 225 (by decide +kernel) rfl)) (hts _ (rk_mt 285 (by decide +kernel) rfl)) ⟨(by decide +kernel), (by decide +kernel), (by decide +kernel)⟩ ⟨Nat.le_of_ble_eq_true rfl, Nat.le_of_ble_eq_true rfl⟩, hts _ (rk_mt 286 (by decide +kernel) rfl)⟩ ⟨sk_blind _ _ _ _, fun U hU hW => ⟨rfl, by rw [hU], sk_pre hX0 hS hA hU hW⟩⟩ rfl rfl hl.1 rfl (lv_room (Nat.le_of_ble_eq_true rfl)) sk_d381_5 ⟨Nat.zero_le _, Nat.zero_le _⟩) hS (fun q h1 h2 => absurd h2 (by omega)) (fun q h => Nat.le_trans hS.1 h) (fun r0 u t H1 locs1 ht hvm hw hB hz1 hk1 hS => ?_)
  subst hw
  refine lv_pop hx hb sk_d381_8 rfl ?_
  exact W.vret hx hb hr (fun t ht hW => ⟨⟨(), rfl, trivial, trivial⟩, hS.F ht⟩) hS.2.2 sk_d381_9
set_option maxHeartbeats 1000000 in
theorem sk_lchar (l : Launch) (a v sz : Nat) (k : Nat) (hk : k < sk_n) : Met l gk_y_382 (Jvm.Cond.code gk_y_382 gk_N382.2.2 2 (some .char) :: gk_tbl) { frames := 3, cells := 0, slots := 0, locals := 120 } (sk_Pc [.ref v, .int (nI k)] a v sz) (sk_Q (sk_b.getD k 0) sz) 0 0 (fun q => sz ≤ q) := by
  refine Met.ofW (cc := gk_N382.2.2) (maxL := 2) (ret := (some .char)) (by decide +kernel) rfl ?_
  intro p e s m args below meth c s₁ B hml hv
  obtain ⟨rfl, hsz, hX⟩ := hv
  have hx := B.exec; have hb := B.bytes; have hr := B.returns; have hlocks := B.notSynchronized
  have hts : ∀ w ∈ gk_tbl, w.before (List.toArray [.ref v, .int (nI k)]) s = true := fun w hw => atoms_spec (ws := Jvm.Cond.code gk_y_382 gk_N382.2.2 2 (some .char) :: gk_tbl) B.pre w (List.mem_cons_of_mem _ hw)
  have hown : s.vm.findClass "java/lang/StringLatin1" = some m.cls := findClass_of_methodNamed B.named
  subst hsz
  have hS : va_S (fun q => s.heap.size ≤ q) s.heap s.heap [] := va_S.rf
  have hA : ∀ q : Nat, s.heap.size ≤ q → s.heap.size ≤ q := fun _ h => h
  have hX0 := hX
  obtain ⟨hO, hC, hV, hT, hZ, hF⟩ := hX
  have hl := lv_entry [.ref v, .int (nI k)] (n := 2) (Nat.le_of_ble_eq_true rfl)
  rw [lg_entry_eq]
  generalize (lg_sl [.ref v, .int (nI k)] ++ List.replicate (2 - (lg_sl [.ref v, .int (nI k)]).length) Slot.unset).toArray = ls at hl ⊢
  have hl : lv_has ls 2 [(0, .ref v), (1, .int (nI k))] := hl
  refine lv_iload_n hx hb sk_d382_0 rfl (lv_at hl 1 rfl) ?_
  refine lv_aload_n hx hb sk_d382_1 rfl (lv_at hl 0 rfl) ?_
  refine va_tlen hx hb hT hS rfl sk_d382_2 ?_
  have hn : sk_n < 2 ^ 31 := by decide
  refine va_callv (va_runS (As := [.int (nI k), .int (nI sk_n)]) (rest := []) ⟨hx, hb, hml, hown, hts⟩ (sk_check l a v s.heap.size (nI k) (nI sk_n) (nI_pos (by omega)) (nI_lt hk hn)) ⟨callB_of 2 hts (rk_good gk_good (rk_mt 282 (by decide +kernel) rfl)) rfl rfl rfl (hts _ (rk_mt 223 (by decide +kernel) rfl)) (hts _ (rk_mt 280 (by decide +kernel) rfl)) ⟨(by decide +kernel), (by decide +kernel), (by decide +kernel)⟩ ⟨Nat.le_of_ble_eq_true rfl, Nat.le_of_ble_eq_true rfl⟩, hts _ (rk_mt 281 (by decide +kernel) rfl)⟩ ⟨sk_blind _ _ _ _, fun U hU hW => ⟨rfl, by rw [hU], sk_pre hX0 hS hA hU hW⟩⟩ rfl rfl hl.1 rfl (lv_room (Nat.le_of_ble_eq_true rfl)) sk_d382_3 ⟨Nat.zero_le _, Nat.zero_le _⟩) hS (fun q h1 h2 => absurd h2 (by omega)) (fun q h => Nat.le_trans hS.1 h) (fun u t H1 locs1 ht hvm hw hB hz1 hk1 hS => ?_)
  refine lv_aload_n hx hb sk_d382_6 rfl (lv_at hl 0 rfl) ?_
  refine lv_iload_n hx hb sk_d382_7 rfl (lv_at hl 1 rfl) ?_
  refine va_tb (v := .int (sk_b.getD k 0)) hx hb hT hS (nI_in hk hn) (by rw [nI_clamp (by omega)]) sk_d382_8 ?_
  refine lv_sipush (v := 255) hx hb sk_d382_9 (by decide) ?_
  have hall : (sk_b.getD k 0) &&& 255 = sk_b.getD k 0 ∧ ((sk_b.getD k 0).toUInt32 % 65536).toInt32 = sk_b.getD k 0 ∧ narrow .char (.int (sk_b.getD k 0)) = .int (sk_b.getD k 0) := by
    have h9 := List.all_eq_true.mp (show (List.range sk_n).all (fun k => decide ((sk_b.getD k 0) &&& 255 = sk_b.getD k 0 ∧ ((sk_b.getD k 0).toUInt32 % 65536).toInt32 = sk_b.getD k 0 ∧ narrow .char (.int (sk_b.getD k 0)) = .int (sk_b.getD k 0))) = true from by decide +kernel) k (List.mem_range.mpr hk)
    exact of_decide_eq_true h9
  refine lv_iand hx hb sk_d382_12 ?_
  rw [hall.1]
  refine lv_i2c hx hb sk_d382_13 hall.2.1 ?_
  exact W.zret (ty := .char) (v := sk_b.getD k 0) hx hb hr hall.2.2 (fun t ht hW => ⟨⟨_, (), rfl, rfl, trivial⟩, hS.F ht⟩) hS.2.2 sk_d382_14
set_option maxHeartbeats 1000000 in
theorem sk_charAt (l : Launch) (a v sz : Nat) (k : Nat) (hk : k < sk_n) : Met l gk_y_378 (Jvm.Cond.code gk_y_378 gk_N378.2.2 2 (some .char) :: gk_tbl) { frames := 4, cells := 0, slots := 0, locals := 160 } (sk_Pc [.ref a, .int (nI k)] a v sz) (sk_Q (sk_b.getD k 0) sz) 0 0 (fun q => sz ≤ q) := by
  refine Met.ofW (cc := gk_N378.2.2) (maxL := 2) (ret := (some .char)) (by decide +kernel) rfl ?_
  intro p e s m args below meth c s₁ B hml hv
  obtain ⟨rfl, hsz, hX⟩ := hv
  have hx := B.exec; have hb := B.bytes; have hr := B.returns; have hlocks := B.notSynchronized
  have hts : ∀ w ∈ gk_tbl, w.before (List.toArray [.ref a, .int (nI k)]) s = true := fun w hw => atoms_spec (ws := Jvm.Cond.code gk_y_378 gk_N378.2.2 2 (some .char) :: gk_tbl) B.pre w (List.mem_cons_of_mem _ hw)
  have hown : s.vm.findClass "java/lang/String" = some m.cls := findClass_of_methodNamed B.named
  subst hsz
  have hS : va_S (fun q => s.heap.size ≤ q) s.heap s.heap [] := va_S.rf
  have hA : ∀ q : Nat, s.heap.size ≤ q → s.heap.size ≤ q := fun _ h => h
  have hX0 := hX
  obtain ⟨hO, hC, hV, hT, hZ, hF⟩ := hX
  have hl := lv_entry [.ref a, .int (nI k)] (n := 2) (Nat.le_of_ble_eq_true rfl)
  rw [lg_entry_eq]
  generalize (lg_sl [.ref a, .int (nI k)] ++ List.replicate (2 - (lg_sl [.ref a, .int (nI k)]).length) Slot.unset).toArray = ls at hl ⊢
  have hl : lv_has ls 2 [(0, .ref a), (1, .int (nI k))] := hl
  refine lv_aload_n hx hb sk_d378_0 rfl (lv_at hl 0 rfl) ?_
  refine va_calli (va_runV (C := "java/lang/String") (As := []) (rest := []) ⟨hx, hb, hml, hown, hts⟩ (sk_isLatin1 l a v s.heap.size) ⟨callB_of 0 hts (rk_good gk_good (rk_mt 276 (by decide +kernel) rfl)) rfl rfl rfl (hts _ (rk_mt 223 (by decide +kernel) rfl)) (hts _ (rk_mt 273 (by decide +kernel) rfl)) ⟨(by decide +kernel), (by decide +kernel), (by decide +kernel)⟩ ⟨Nat.le_of_ble_eq_true rfl, Nat.le_of_ble_eq_true rfl⟩, hts _ (rk_mt 274 (by decide +kernel) rfl), hts _ (rk_mt 275 (by decide +kernel) rfl)⟩ ⟨sk_blind _ _ _ _, (by obtain ⟨cell, h1, h2, h3, -⟩ := hO.kept hS.2.1; exact ⟨cell, h1, h2, h3⟩), fun U hU hW => ⟨rfl, by rw [hU], sk_pre hX0 hS hA hU hW⟩⟩ rfl rfl hl.1 rfl (lv_room (Nat.le_of_ble_eq_true rfl)) sk_d378_1 ⟨Nat.zero_le _, Nat.zero_le _⟩) hS (fun q h1 h2 => absurd h2 (by omega)) (fun q h => Nat.le_trans hS.1 h) (fun r0 u t H1 locs1 ht hvm hw hB hz1 hk1 hS => ?_)
  subst hw
  refine lv_if_eq (tgt := 16) hx hb sk_d378_4 rfl (fun h => absurd h (by decide)) (fun _ => ?_)
  refine lv_aload_n hx hb sk_d378_7 rfl (lv_at hl 0 rfl) ?_
  refine vk_getf hx hb hV hS hown (hts _ (rk_mt 2476 (by decide +kernel) rfl)) (fun _ h => h) sk_d378_8 ?_
  refine lv_iload_n hx hb sk_d378_11 rfl (lv_at hl 1 rfl) ?_
  refine va_calli (va_runS (As := [.ref v, .int (nI k)]) (rest := []) ⟨hx, hb, hml, hown, hts⟩ (sk_lchar l a v H1.size k hk) ⟨callB_of 2 hts (rk_good gk_good (rk_mt 279 (by decide +kernel) rfl)) rfl rfl rfl (hts _ (rk_mt 224 (by decide +kernel) rfl)) (hts _ (rk_mt 277 (by decide +kernel) rfl)) ⟨(by decide +kernel), (by decide +kernel), (by decide +kernel)⟩ ⟨Nat.le_of_ble_eq_true rfl, Nat.le_of_ble_eq_true rfl⟩, hts _ (rk_mt 278 (by decide +kernel) rfl)⟩ ⟨sk_blind _ _ _ _, fun U hU hW => ⟨rfl, by rw [hU], sk_pre hX0 hS hA hU hW⟩⟩ rfl rfl hl.1 rfl (lv_room (Nat.le_of_ble_eq_true rfl)) sk_d378_12 ⟨Nat.zero_le _, Nat.zero_le _⟩) hS (fun q h1 h2 => absurd h2 (by omega)) (fun q h => Nat.le_trans hS.1 h) (fun r0 u t H1 locs1 ht hvm hw hB hz1 hk1 hS => ?_)
  subst hw
  have hn9 : narrow .char (.int (sk_b.getD k 0)) = .int (sk_b.getD k 0) := of_decide_eq_true (List.all_eq_true.mp (show (List.range sk_n).all (fun k => decide (narrow .char (.int (sk_b.getD k 0)) = .int (sk_b.getD k 0))) = true from by decide +kernel) k (List.mem_range.mpr hk))
  exact W.zret (ty := .char) (v := sk_b.getD k 0) hx hb hr hn9 (fun t ht hW => ⟨⟨_, (), rfl, rfl, trivial⟩, hS.F ht⟩) hS.2.2 sk_d378_15
end MH40_6
section MH40_7
/-! ===== fx: the steps that look at cells ===== -/
abbrev fx_E : Type := (Nat × List Value) ⊕ (FieldType × vp_A)
abbrev fx_M : Type := List fx_E
abbrev fx_P : Type := List (Nat × ClassId)
abbrev fx_R4 : Type := Option (Nat × fx_L × List Value × fx_M)
def fx_z (ps : fx_P) (z : vp_A) : vp_A := match z.2 with
  | .inr (.inr (.inr (.inr f))) => (z.1, .inr (.inr (.inr (.inr (fun i => (f i).map (fx_ad ps))))))
  | _ => z
def fx_c (ps : fx_P) (cA : ClassId) (e : fx_E) : va_E := match e with
  | .inl o => .inr (o.1, o.2.map (fx_v ps))
  | .inr q => .inl (cA, fx_z ps q.2)
def fx_w (ps : fx_P) (mem : fx_M) : va_W := List.zipWith (fun q e => (q.1, fx_c ps q.2 e)) ps mem
def fx_ok (U : State) (ps : fx_P) (mem : fx_M) : Prop := ps.length = mem.length + 1 ∧ ∀ (j : Nat) (q : Nat × ClassId) (ty : FieldType) (z : vp_A), ps[j]? = some q → mem[j]? = some (.inr (ty, z)) → ArrOfT U q.2 ty ∧ va_RA U q.2 ty
theorem fx_w_get {U : State} {ps : fx_P} {mem : fx_M} (h : fx_ok U ps mem) {j : Nat} {e : fx_E} (hj : mem[j]? = some e) : ∃ q, ps[j]? = some q ∧ fx_ad ps j = q.1 ∧ (fx_w ps mem)[j]? = some (q.1, fx_c ps q.2 e) := by
  have hlt : j < ps.length := by rw [h.1]; exact Nat.lt_succ_of_lt (List.getElem?_eq_some_iff.mp hj).1
  have hq : ps[j]? = some ps[j] := List.getElem?_eq_getElem hlt
  refine ⟨ps[j], hq, ?_, ?_⟩
  · unfold fx_ad
    rw [hq]
  · unfold fx_w
    rw [List.getElem?_zipWith, hq, hj]
theorem fx_w_set (ps : fx_P) : ∀ (mem : fx_M) (j : Nat) (e : fx_E) (q : Nat × ClassId), ps[j]? = some q → fx_w ps (mem.set j e) = (fx_w ps mem).set j (q.1, fx_c ps q.2 e) := by
  intro mem j e q hq
  apply List.ext_getElem?
  intro i
  unfold fx_w
  rw [List.getElem?_zipWith, List.getElem?_set, List.getElem?_set, List.getElem?_zipWith, List.length_zipWith]
  by_cases hi : j = i
  · subst hi
    rw [if_pos rfl, if_pos rfl, hq]
    have hl : j < ps.length := (List.getElem?_eq_some_iff.mp hq).1
    by_cases hm : j < mem.length
    · rw [if_pos hm, if_pos (by omega)]
    · rw [if_neg hm, if_neg (by omega)]
  · rw [if_neg hi, if_neg hi]
theorem fx_ok_obj {U : State} {ps : fx_P} {mem : fx_M} (h : fx_ok U ps mem) (j : Nat) (o : Nat × List Value) : fx_ok U ps (mem.set j (.inl o)) := by
  refine ⟨by rw [List.length_set]; exact h.1, fun i q ty z hq hm => ?_⟩
  rw [List.getElem?_set] at hm
  split at hm
  · split at hm <;> cases hm
  · exact h.2 i q ty z hq hm
theorem fx_ok_arr {U : State} {ps : fx_P} {mem : fx_M} (h : fx_ok U ps mem) {j : Nat} {ty : FieldType} {z z' : vp_A} (hj : mem[j]? = some (.inr (ty, z))) : fx_ok U ps (mem.set j (.inr (ty, z'))) := by
  refine ⟨by rw [List.length_set]; exact h.1, fun i q ty2 z2 hq hm => ?_⟩
  rw [List.getElem?_set] at hm
  split at hm
  · next e =>
    subst e
    split at hm
    · cases hm
      exact h.2 _ _ _ _ hq hj
    · cases hm
  · exact h.2 i q ty2 z2 hq hm
def fx_gf (pc kd ci k : Nat) (lc : fx_L) (stk : List Value) (mem : fx_M) : fx_R4 := match stk with
  | .ref j :: r => (match mem[j]? with
    | some (.inl o) => cond (Nat.ble kd 2 && Nat.beq o.1 ci) (match o.2[k]? with
      | some v => some (pc, lc, v :: r, mem)
      | none => none) none
    | _ => none)
  | _ => none
def fx_vt (ty : FieldType) (v : Value) : Bool := match ty with
  | .int => Nat.beq (fx_kd v) 0
  | .long => Nat.beq (fx_kd v) 1
  | .boolean => (match v with
    | .int x => decide (x = 0) || decide (x = 1)
    | _ => false)
  | _ => false
theorem fx_vt_ok {ps : fx_P} {ty : FieldType} {v : Value} (h : fx_vt ty v = true) : fx_v ps v = v ∧ narrow ty v = v ∧ fits ty v = true := by
  unfold fx_vt at h
  split at h
  · obtain ⟨x, rfl⟩ := (fx_v_kd (ps := ps) (v := v)).1 (Nat.eq_of_beq_eq_true h)
    exact ⟨rfl, rfl, rfl⟩
  · obtain ⟨x, rfl⟩ := (fx_v_kd (ps := ps) (v := v)).2.1 (Nat.eq_of_beq_eq_true h)
    exact ⟨rfl, rfl, rfl⟩
  · split at h
    · next x =>
      rw [Bool.or_eq_true, decide_eq_true_eq, decide_eq_true_eq] at h
      rcases h with rfl | rfl
      · exact ⟨rfl, rfl, rfl⟩
      · exact ⟨rfl, rfl, rfl⟩
    · cases h
  · cases h
def fx_pf (fty : rk_F) (pc kd ci k : Nat) (lc : fx_L) (stk : List Value) (mem : fx_M) : fx_R4 := match stk with
  | v :: .ref j :: r => (match mem[j]?, (fty[ci]?).bind (fun z => z[k]?) with
    | some (.inl o), some ft => cond (Nat.ble kd 1 && (Nat.beq o.1 ci && (Nat.blt k o.2.length && (fx_vt ft.1 v && !ft.2)))) (some (pc, lc, r, mem.set j (.inl (o.1, o.2.set k v)))) none
    | _, _ => none)
  | _ => none
def fx_in (i : Int32) (n : Nat) : Bool := decide (0 ≤ i.toInt) && decide (i.toInt < (n : Int))
theorem fx_in_ok {i : Int32} {n : Nat} (h : fx_in i n = true) : vp_in i n := by
  unfold fx_in at h
  rw [Bool.and_eq_true, decide_eq_true_eq, decide_eq_true_eq] at h
  intro q
  rcases q with q | q
  · have := Int32.lt_iff_toInt_lt.mp q
    have z0 : (0 : Int32).toInt = 0 := rfl
    omega
  · have : n ≤ i.toInt.toNat := q
    omega
def fx_ia (pc : Nat) (lc : fx_L) (stk : List Value) (mem : fx_M) : fx_R4 := match stk with
  | .int i :: .ref j :: r => (match mem[j]? with
    | some (.inr (.int, n, .inl f)) => cond (fx_in i n) (some (pc, lc, .int (f i.toNatClampNeg) :: r, mem)) none
    | _ => none)
  | _ => none
def fx_ba (pc : Nat) (lc : fx_L) (stk : List Value) (mem : fx_M) : fx_R4 := match stk with
  | .int i :: .ref j :: r => (match mem[j]? with
    | some (.inr (.byte, n, .inl f)) => cond (fx_in i n) (some (pc, lc, .int (f i.toNatClampNeg) :: r, mem)) none
    | _ => none)
  | _ => none
def fx_la (pc : Nat) (lc : fx_L) (stk : List Value) (mem : fx_M) : fx_R4 := match stk with
  | .int i :: .ref j :: r => (match mem[j]? with
    | some (.inr (.long, n, .inr (.inl f))) => cond (fx_in i n) (some (pc, lc, .long (f i.toNatClampNeg) :: r, mem)) none
    | _ => none)
  | _ => none
def fx_is (pc : Nat) (lc : fx_L) (stk : List Value) (mem : fx_M) : fx_R4 := match stk with
  | .int v :: .int i :: .ref j :: r => (match mem[j]? with
    | some (.inr (.int, n, .inl f)) => cond (fx_in i n) (some (pc, lc, r, mem.set j (.inr (.int, n, .inl (upd f i.toNatClampNeg v))))) none
    | _ => none)
  | _ => none
def fx_bs (pc : Nat) (lc : fx_L) (stk : List Value) (mem : fx_M) : fx_R4 := match stk with
  | .int v :: .int i :: .ref j :: r => (match mem[j]? with
    | some (.inr (.byte, n, .inl f)) => cond (fx_in i n) (some (pc, lc, r, mem.set j (.inr (.byte, n, .inl (upd f i.toNatClampNeg v.toInt8.toInt32))))) none
    | _ => none)
  | _ => none
def fx_ls (pc : Nat) (lc : fx_L) (stk : List Value) (mem : fx_M) : fx_R4 := match stk with
  | .long v :: .int i :: .ref j :: r => (match mem[j]? with
    | some (.inr (.long, n, .inr (.inl f))) => cond (fx_in i n) (some (pc, lc, r, mem.set j (.inr (.long, n, .inr (.inl (vp_updL f i.toNatClampNeg v)))))) none
    | _ => none)
  | _ => none
def fx_ct (pc : Nat) (v : Option Value) (lc : fx_L) (stk : List Value) (mem : fx_M) : fx_R4 := match v with
  | some v => some (pc, lc, v :: stk, mem)
  | none => none
def fx_sum (stk : List Value) : Nat := (stk.map (fun v => v.category)).sum
def fx_mx (f : Int32 → Int32 → Int32) (pc : Nat) (lc : fx_L) (stk : List Value) (mem : fx_M) : fx_R4 := match stk with
  | .int y :: .int x :: r => cond (Nat.ble (fx_sum r) 8) (some (pc, lc, .int (f x y) :: r, mem)) none
  | _ => none
def fx_ab (pc : Nat) (lc : fx_L) (stk : List Value) (mem : fx_M) : fx_R4 := match stk with
  | .int x :: r => cond (Nat.ble (fx_sum r) 8) (some (pc, lc, .int (if 0 ≤ x then x else 0 - x) :: r, mem)) none
  | _ => none
def fx_tb (pc : Nat) (dflt low high : Int) (offs : List Int) (lc : fx_L) (stk : List Value) (mem : fx_M) : fx_R4 := match stk with
  | .int x :: r => cond (decide ((offs.length : Int) = high - low + 1) && decide (0 ≤ (pc : Int) + Op.lookupswitch.offset (tk_tp low offs) dflt x.toInt)) (some (fx_to pc (Op.lookupswitch.offset (tk_tp low offs) dflt x.toInt), lc, r, mem)) none
  | _ => none
def fx_lk (pc : Nat) (dflt : Int) (ps : List (Int × Int)) (lc : fx_L) (stk : List Value) (mem : fx_M) : fx_R4 := match stk with
  | .int x :: r => cond ((ps.zip (ps.drop 1)).all (fun z => decide (z.1.1 < z.2.1)) && decide (0 ≤ (pc : Int) + Op.lookupswitch.offset ps dflt x.toInt)) (some (fx_to pc (Op.lookupswitch.offset ps dflt x.toInt), lc, r, mem)) none
  | _ => none
def fx_none : fx_L → List Value → fx_M → fx_R4 := fun _ _ _ => none
def fx_st (kd f : Nat) (pc : Nat) : fx_L → List Value → fx_M → fx_R4 := cond (Nat.beq kd 14) (fx_mx (fun x y => if x < y then y else x) pc) (cond (Nat.beq kd 15) (fx_mx (fun x y => if y < x then y else x) pc) (cond (Nat.beq kd 17) (fx_ab pc) fx_none))
def fx_pl (nL pc : Nat) (ins : Instr) (lc : fx_L) (stk : List Value) (mem : fx_M) : fx_R4 := match fx_pure nL pc ins lc stk with
  | some z => some (z.1, z.2.1, z.2.2, mem)
  | none => none
def fx_mem (fty : rk_F) (M : rk_M2) (pc : Nat) (ins : Instr) : fx_L → List Value → fx_M → fx_R4 := match ins with
  | .getfield idx => (match rk_lk M.2.2.1 idx with
    | some q => fx_gf (pc + 3) q.1 q.2.1 q.2.2
    | none => fx_none)
  | .putfield idx => (match rk_lk M.2.2.1 idx with
    | some q => fx_pf fty (pc + 3) q.1 q.2.1 q.2.2
    | none => fx_none)
  | .iaload => fx_ia (pc + 1)
  | .baload => fx_ba (pc + 1)
  | .laload => fx_la (pc + 1)
  | .iastore => fx_is (pc + 1)
  | .bastore => fx_bs (pc + 1)
  | .lastore => fx_ls (pc + 1)
  | .ldc idx => fx_ct (pc + 2) (tk_csti (rk_cst M.2.2.2.1 idx))
  | .ldc_w idx => fx_ct (pc + 3) (tk_csti (rk_cst M.2.2.2.1 idx))
  | .ldc2_w idx => fx_ct (pc + 3) (tk_cstl (rk_cst M.2.2.2.1 idx))
  | .tableswitch d lo hi offs => fx_tb pc d lo hi offs.toList
  | .lookupswitch d ps => fx_lk pc d ps.toList
  | .invokestatic idx => (match rk_lk M.2.2.1 idx with
    | some q => fx_st q.1 q.2.1 (pc + 3)
    | none => fx_none)
  | ins => fx_pl M.2.1 pc ins
theorem fx_nos {α : Type} {a : α} (h : (none : Option α) = some a) {P : Prop} : P := nomatch h
section FXM
variable {p : Program} {l : Launch} {e : Env} {R : Room} {s : State} {m : MethodId} {args : Array Value} {below : List Frame} {meth : Method} {c : Code} {Q : State → Prop} {cc : ByteArray} {D : va_G} {cl : List vw_C} {Ad : Nat → Prop} {tbl xw : List Jvm.Cond} {fty : rk_F} {cln : List String} {own : String}
theorem fx_arr {lk : List (Nat × Nat × Nat × Nat)} {cs : List (Nat × Value)} (hF : rk_Fr s m args meth D cl Ad tbl xw fty cln own lk cs) {ps : fx_P} {mem : fx_M} (hO : fx_ok s ps mem) {j : Nat} {ty : FieldType} {z : vp_A} (hj : mem[j]? = some (.inr (ty, z))) : ∃ q, ps[j]? = some q ∧ fx_ad ps j = q.1 ∧ (fx_w ps mem)[j]? = some (q.1, .inl (q.2, fx_z ps z)) ∧ va_K D cl [(q.2, ty)] s := by
  obtain ⟨q, h1, h2, h3⟩ := fx_w_get hO hj
  obtain ⟨g1, g2⟩ := hO.2 j q ty z h1 hj
  exact ⟨q, h1, h2, h3, rk_K1 hF.2.2.2.1 g1 g2⟩
set_option maxHeartbeats 8000000 in
theorem fx_mem_ok {M : rk_M2} (hx : p.tables.exec = Jvm.exec) (hb : c.code = cc) (hml : c.maxLocals = M.2.1) (hF : rk_Fr s m args meth D cl Ad tbl xw fty cln own M.2.2.1 M.2.2.2.1) (hfr : 1 ≤ R.frames) (hlo : 40 ≤ R.locals) {pc : Nat} {ins : Instr} {len : Nat} (hdg : decode cc pc = .ok (ins, len)) (hlen : rk_len ins len = true) {ps : fx_P} {lc : fx_L} {stk : List Value} {mem : fx_M} {zz : Nat × fx_L × List Value × fx_M} (h : fx_mem fty M pc ins lc stk mem = some zz) (hO : fx_ok s ps mem) {H : Heap} {locs : List Loc} {ls : Array Slot} (hP : va_P D cl (fx_w ps mem) H) (hD : va_D Ad (fx_w ps mem)) (hS : va_S Ad s.heap H locs) (hl : lv_has ls M.2.1 (fx_lm ps lc)) (kk : ∀ (H' : Heap) (locs' : List Loc) (ls' : Array Slot), fx_ok s ps zz.2.2.2 → va_P D cl (fx_w ps zz.2.2.2) H' → va_D Ad (fx_w ps zz.2.2.2) → va_S Ad s.heap H' locs' → lv_has ls' M.2.1 (fx_lm ps zz.2.1) → rk_KW p l e R s m args below meth c Q zz.1 ls' (zz.2.2.1.map (fx_v ps)) H' locs' 0 0) : rk_KW p l e R s m args below meth c Q pc ls (stk.map (fx_v ps)) H locs 0 0 := by
  have hF0 := hF
  obtain ⟨hts, hxw, hown, hK, hA, hcl, hlk, hini, hac, hcs⟩ := hF0
  cases ins
  case getfield idx =>
    simp [rk_len] at hlen; subst hlen
    change (match rk_lk M.2.2.1 idx with
      | some q => fx_gf (pc + 3) q.1 q.2.1 q.2.2
      | none => fx_none) lc stk mem = some zz at h
    cases hlk1 : rk_lk M.2.2.1 idx with
    | none => rw [hlk1] at h; exact fx_nos h
    | some q =>
      rw [hlk1] at h
      obtain ⟨kd, ci, k⟩ := q
      change fx_gf (pc + 3) kd ci k lc stk mem = some zz at h
      unfold fx_gf at h
      split at h
      · next j r =>
        split at h
        · next o hj =>
          cases hc : (Nat.ble kd 2 && Nat.beq o.1 ci) with
          | false => rw [hc] at h; exact fx_nos h
          | true =>
            rw [hc] at h
            dsimp only [cond] at h
            rw [Bool.and_eq_true] at hc
            have hkd := Nat.le_of_ble_eq_true hc.1
            have hci := Nat.eq_of_beq_eq_true hc.2
            obtain ⟨ci2, vs⟩ := o
            dsimp only at hci
            subst hci
            split at h
            · next v hv =>
              obtain rfl := Option.some.inj h
              obtain ⟨q, h1, h2, h3⟩ := fx_w_get hO hj
              have hw : (fx_w ps mem)[j]? = some (fx_ad ps j, .inr (ci2, vs.map (fx_v ps))) := by rw [h2]; exact h3
              have hv2 : (vs.map (fx_v ps))[k]? = some (fx_v ps v) := by rw [List.getElem?_map, hv]; rfl
              have fin := kk H locs ls hO hP hD hS hl
              have hr := hlk _ (rk_lk_mem hlk1)
              show rk_KW p l e R s m args below meth c Q pc ls (.ref (fx_ad ps j) :: r.map (fx_v ps)) H locs 0 0
              rcases (show kd = 0 ∨ kd = 1 ∨ kd = 2 by omega) with rfl | rfl | rfl
              · obtain ⟨q, hq, hkN, hm⟩ := hr
                exact va_get (C := q.1) (T := q.2.1) (N := q.2.2) hx hb hts (hcl _ _ hq).1 hown hK hP j hw hq k hkN (hts _ hm) (fun _ h9 => h9) hv2 hdg fin
              · obtain ⟨q, host, hq, hkN, hm⟩ := hr
                exact va_getN (C := q.1) (T := q.2.1) (N := q.2.2) hx hb hts (hcl _ _ hq).1 hown hK hP j hw hq k hkN (va_Nw.use rfl (hxw _ hm)) (fun _ h9 => h9) hv2 hdg fin
              · obtain ⟨q, hq, hkN, hm, -⟩ := hr
                exact va_get (C := q.1) (T := q.2.1) (N := q.2.2) hx hb hts (hcl _ _ hq).1 hown hK hP j hw hq k hkN (hts _ hm) (fun _ h9 => h9) hv2 hdg fin
            · exact fx_nos h
        · exact fx_nos h
      · exact fx_nos h
  case putfield idx =>
    simp [rk_len] at hlen; subst hlen
    change (match rk_lk M.2.2.1 idx with
      | some q => fx_pf fty (pc + 3) q.1 q.2.1 q.2.2
      | none => fx_none) lc stk mem = some zz at h
    cases hlk1 : rk_lk M.2.2.1 idx with
    | none => rw [hlk1] at h; exact fx_nos h
    | some q =>
      rw [hlk1] at h
      obtain ⟨kd, ci, k⟩ := q
      change fx_pf fty (pc + 3) kd ci k lc stk mem = some zz at h
      unfold fx_pf at h
      split at h
      · next v j r =>
        split at h
        · next o ft hj hft =>
          obtain ⟨hc, rfl⟩ := fx_if_inv h
          rw [Bool.and_eq_true, Bool.and_eq_true, Bool.and_eq_true, Bool.and_eq_true] at hc
          obtain ⟨c1, c2, c3, c4, c5⟩ := hc
          have hkd := Nat.le_of_ble_eq_true c1
          have hci := Nat.eq_of_beq_eq_true c2
          have hkl : k < o.2.length := Nat.le_of_ble_eq_true c3
          have hft2 : ft.2 = false := by
            cases hz : ft.2 with
            | false => rfl
            | true => rw [hz] at c5; cases c5
          obtain ⟨ci2, vs⟩ := o
          dsimp only at hci hkl hj
          subst hci
          obtain ⟨hv1, hn, hfi⟩ := fx_vt_ok (ps := ps) c4
          obtain ⟨q, h1, h2, h3⟩ := fx_w_get hO hj
          have hw : (fx_w ps mem)[j]? = some (fx_ad ps j, .inr (ci2, vs.map (fx_v ps))) := by rw [h2]; exact h3
          have eset : fx_w ps (mem.set j (.inl (ci2, vs.set k v))) = (fx_w ps mem).set j (fx_ad ps j, .inr (ci2, (vs.map (fx_v ps)).set k v)) := by
            rw [fx_w_set ps mem j _ q h1, h2]
            show (fx_w ps mem).set j (q.1, .inr (ci2, (vs.set k v).map (fx_v ps))) = _
            rw [List.map_set, hv1]
          have fin : ∀ (H1 : Heap) (locs1 : List Loc), va_P D cl ((fx_w ps mem).set j (fx_ad ps j, .inr (ci2, (vs.map (fx_v ps)).set k v))) H1 → va_D Ad ((fx_w ps mem).set j (fx_ad ps j, .inr (ci2, (vs.map (fx_v ps)).set k v))) → va_S Ad s.heap H1 locs1 → rk_KW p l e R s m args below meth c Q (pc + 3) ls (r.map (fx_v ps)) H1 locs1 0 0 := fun H1 locs1 g1 g2 g3 => kk H1 locs1 ls (fx_ok_obj hO _ _) (by rw [eset]; exact g1) (by rw [eset]; exact g2) g3 hl
          show rk_KW p l e R s m args below meth c Q pc ls (fx_v ps v :: .ref (fx_ad ps j) :: r.map (fx_v ps)) H locs 0 0
          rw [hv1]
          have hr := hlk _ (rk_lk_mem hlk1)
          obtain ⟨tf, htf, htk⟩ := Option.bind_eq_some_iff.mp hft
          have hkl2 : k < (vs.map (fx_v ps)).length := by rw [List.length_map]; exact hkl
          rcases (show kd = 0 ∨ kd = 1 by omega) with rfl | rfl
          · obtain ⟨q, hq, hkN, hm1⟩ := hr
            obtain ⟨d1, d2, -, tf', htf', hlenT, hT2⟩ := hcl _ _ hq
            cases htf.symm.trans htf'
            obtain ⟨t1, t2⟩ := hT2 k ft htk
            exact va_put (C := q.1) (T := q.2.1) (N := q.2.2) hx hb hts d1 _ (rk_ty hlenT hT2) d2 hown hK hP hD hS j hw hq k hkN (hts _ hm1) (fun _ h9 => h9) (t2.trans hft2) t1 hn hfi hkl2 hdg fin
          · obtain ⟨q, host, hq, hkN, hm1⟩ := hr
            obtain ⟨d1, d2, -, tf', htf', hlenT, hT2⟩ := hcl _ _ hq
            cases htf.symm.trans htf'
            obtain ⟨t1, t2⟩ := hT2 k ft htk
            exact va_putN (C := q.1) (T := q.2.1) (N := q.2.2) hx hb hts d1 _ (rk_ty hlenT hT2) d2 hown hK hP hD hS j hw hq k hkN (va_Nw.use rfl (hxw _ hm1)) (fun _ h9 => h9) (t2.trans hft2) t1 hn hfi hkl2 hdg fin
        · exact fx_nos h
      · exact fx_nos h
  case iaload =>
    simp [rk_len] at hlen; subst hlen
    change fx_ia (pc + 1) lc stk mem = some zz at h
    unfold fx_ia at h
    split at h
    · next i j r =>
      split at h
      · next n f hj =>
        obtain ⟨hc, rfl⟩ := fx_if_inv h
        obtain ⟨q, h1, h2, h3, h4⟩ := fx_arr hF hO hj
        show rk_KW p l e R s m args below meth c Q pc ls (.int i :: .ref (fx_ad ps j) :: r.map (fx_v ps)) H locs 0 0
        rw [h2]
        exact va_iald hx hb h4 hP j 0 h3 rfl (fx_in_ok hc) hdg (kk H locs ls hO hP hD hS hl)
      · exact fx_nos h
    · exact fx_nos h
  case baload =>
    simp [rk_len] at hlen; subst hlen
    change fx_ba (pc + 1) lc stk mem = some zz at h
    unfold fx_ba at h
    split at h
    · next i j r =>
      split at h
      · next n f hj =>
        obtain ⟨hc, rfl⟩ := fx_if_inv h
        obtain ⟨q, h1, h2, h3, h4⟩ := fx_arr hF hO hj
        show rk_KW p l e R s m args below meth c Q pc ls (.int i :: .ref (fx_ad ps j) :: r.map (fx_v ps)) H locs 0 0
        rw [h2]
        exact va_bald hx hb h4 hP j 0 h3 rfl (fx_in_ok hc) hdg (kk H locs ls hO hP hD hS hl)
      · exact fx_nos h
    · exact fx_nos h
  case laload =>
    simp [rk_len] at hlen; subst hlen
    change fx_la (pc + 1) lc stk mem = some zz at h
    unfold fx_la at h
    split at h
    · next i j r =>
      split at h
      · next n f hj =>
        obtain ⟨hc, rfl⟩ := fx_if_inv h
        obtain ⟨q, h1, h2, h3, h4⟩ := fx_arr hF hO hj
        show rk_KW p l e R s m args below meth c Q pc ls (.int i :: .ref (fx_ad ps j) :: r.map (fx_v ps)) H locs 0 0
        rw [h2]
        exact va_lald hx hb h4 hP j 0 h3 rfl (fx_in_ok hc) hdg (kk H locs ls hO hP hD hS hl)
      · exact fx_nos h
    · exact fx_nos h
  case iastore =>
    simp [rk_len] at hlen; subst hlen
    change fx_is (pc + 1) lc stk mem = some zz at h
    unfold fx_is at h
    split at h
    · next v i j r =>
      split at h
      · next n f hj =>
        obtain ⟨hc, rfl⟩ := fx_if_inv h
        obtain ⟨q, h1, h2, h3, h4⟩ := fx_arr hF hO hj
        have eset : fx_w ps (mem.set j (.inr (.int, n, .inl (upd f i.toNatClampNeg v)))) = (fx_w ps mem).set j (q.1, .inl (q.2, n, .inl (upd f i.toNatClampNeg v))) := fx_w_set ps mem j _ q h1
        show rk_KW p l e R s m args below meth c Q pc ls (.int v :: .int i :: .ref (fx_ad ps j) :: r.map (fx_v ps)) H locs 0 0
        rw [h2]
        refine va_iast hx hb h4 hP hD hS j 0 h3 rfl (fx_in_ok hc) hdg (fun H1 locs1 hP1 hD1 hS1 => ?_)
        exact kk H1 locs1 ls (fx_ok_arr hO hj) (by rw [eset]; exact hP1) (by rw [eset]; exact hD1) hS1 hl
      · exact fx_nos h
    · exact fx_nos h
  case bastore =>
    simp [rk_len] at hlen; subst hlen
    change fx_bs (pc + 1) lc stk mem = some zz at h
    unfold fx_bs at h
    split at h
    · next v i j r =>
      split at h
      · next n f hj =>
        obtain ⟨hc, rfl⟩ := fx_if_inv h
        obtain ⟨q, h1, h2, h3, h4⟩ := fx_arr hF hO hj
        have eset : fx_w ps (mem.set j (.inr (.byte, n, .inl (upd f i.toNatClampNeg v.toInt8.toInt32)))) = (fx_w ps mem).set j (q.1, .inl (q.2, n, .inl (upd f i.toNatClampNeg v.toInt8.toInt32))) := fx_w_set ps mem j _ q h1
        show rk_KW p l e R s m args below meth c Q pc ls (.int v :: .int i :: .ref (fx_ad ps j) :: r.map (fx_v ps)) H locs 0 0
        rw [h2]
        refine va_bast hx hb h4 hP hD hS j 0 h3 rfl (fx_in_ok hc) hdg (fun H1 locs1 hP1 hD1 hS1 => ?_)
        exact kk H1 locs1 ls (fx_ok_arr hO hj) (by rw [eset]; exact hP1) (by rw [eset]; exact hD1) hS1 hl
      · exact fx_nos h
    · exact fx_nos h
  case lastore =>
    simp [rk_len] at hlen; subst hlen
    change fx_ls (pc + 1) lc stk mem = some zz at h
    unfold fx_ls at h
    split at h
    · next v i j r =>
      split at h
      · next n f hj =>
        obtain ⟨hc, rfl⟩ := fx_if_inv h
        obtain ⟨q, h1, h2, h3, h4⟩ := fx_arr hF hO hj
        have eset : fx_w ps (mem.set j (.inr (.long, n, .inr (.inl (vp_updL f i.toNatClampNeg v))))) = (fx_w ps mem).set j (q.1, .inl (q.2, n, .inr (.inl (vp_updL f i.toNatClampNeg v)))) := fx_w_set ps mem j _ q h1
        show rk_KW p l e R s m args below meth c Q pc ls (.long v :: .int i :: .ref (fx_ad ps j) :: r.map (fx_v ps)) H locs 0 0
        rw [h2]
        refine va_last hx hb h4 hP hD hS j 0 h3 rfl (fx_in_ok hc) hdg (fun H1 locs1 hP1 hD1 hS1 => ?_)
        exact kk H1 locs1 ls (fx_ok_arr hO hj) (by rw [eset]; exact hP1) (by rw [eset]; exact hD1) hS1 hl
      · exact fx_nos h
    · exact fx_nos h
  case ldc idx =>
    simp [rk_len] at hlen; subst hlen
    change fx_ct (pc + 2) (tk_csti (rk_cst M.2.2.2.1 idx)) lc stk mem = some zz at h
    cases hc1 : rk_cst M.2.2.2.1 idx with
    | none => rw [hc1] at h; exact fx_nos h
    | some v =>
      rw [hc1] at h
      cases v with
      | int x =>
        obtain rfl := Option.some.inj h
        exact lv_ldc hx hb hown (hts _ ((hcs _ (rk_cst_mem hc1)).1 x rfl)) hdg (kk H locs ls hO hP hD hS hl)
      | _ => exact fx_nos h
  case ldc_w idx =>
    simp [rk_len] at hlen; subst hlen
    change fx_ct (pc + 3) (tk_csti (rk_cst M.2.2.2.1 idx)) lc stk mem = some zz at h
    cases hc1 : rk_cst M.2.2.2.1 idx with
    | none => rw [hc1] at h; exact fx_nos h
    | some v =>
      rw [hc1] at h
      cases v with
      | int x =>
        obtain rfl := Option.some.inj h
        exact lv_ldcw hx hb hown (hts _ ((hcs _ (rk_cst_mem hc1)).1 x rfl)) hdg (kk H locs ls hO hP hD hS hl)
      | _ => exact fx_nos h
  case ldc2_w idx =>
    simp [rk_len] at hlen; subst hlen
    change fx_ct (pc + 3) (tk_cstl (rk_cst M.2.2.2.1 idx)) lc stk mem = some zz at h
    cases hc1 : rk_cst M.2.2.2.1 idx with
    | none => rw [hc1] at h; exact fx_nos h
    | some v =>
      rw [hc1] at h
      cases v with
      | long x =>
        obtain rfl := Option.some.inj h
        exact lv_ldc2 hx hb hown (hts _ ((hcs _ (rk_cst_mem hc1)).2 x rfl)) hdg (kk H locs ls hO hP hD hS hl)
      | _ => exact fx_nos h
  case tableswitch dd lo hi offs =>
    change fx_tb pc dd lo hi offs.toList lc stk mem = some zz at h
    unfold fx_tb at h
    split at h
    · next x r =>
      obtain ⟨hc, rfl⟩ := fx_if_inv h
      rw [Bool.and_eq_true, decide_eq_true_eq, decide_eq_true_eq] at hc
      obtain ⟨hlen2, g1⟩ := hc
      have fin := kk H locs ls hO hP hD hS hl
      dsimp only [fx_to] at fin
      show rk_KW p l e R s m args below meth c Q pc ls (.int x :: r.map (fx_v ps)) H locs 0 0
      rcases tk_tp_ok dd x.toInt offs.toList lo with ⟨h1, h2⟩ | ⟨i, h1, h2⟩
      · rw [h2] at fin g1
        exact lv_tableOut (tgt := ((pc : Int) + dd).toNat) hx hb hdg (by omega) (by omega) fin
      · have hi2 : i < offs.toList.length := (List.getElem?_eq_some_iff.mp h2).1
        refine lv_tableIn (off := Op.lookupswitch.offset (tk_tp lo offs.toList) dd x.toInt) (tgt := ((pc : Int) + Op.lookupswitch.offset (tk_tp lo offs.toList) dd x.toInt).toNat) hx hb hdg (by omega) (by omega) ?_ (by omega) fin
        rw [show (x.toInt - lo).toNat = i from by omega]
        rw [Array.getElem?_toList] at h2
        exact h2
    · exact fx_nos h
  case lookupswitch dd sps =>
    change fx_lk pc dd sps.toList lc stk mem = some zz at h
    unfold fx_lk at h
    split at h
    · next x r =>
      obtain ⟨hc, rfl⟩ := fx_if_inv h
      rw [Bool.and_eq_true, decide_eq_true_eq] at hc
      obtain ⟨hsrt, g1⟩ := hc
      have fin := kk H locs ls hO hP hD hS hl
      dsimp only [fx_to] at fin
      show rk_KW p l e R s m args below meth c Q pc ls (.int x :: r.map (fx_v ps)) H locs 0 0
      refine lv_lookup (tgt := ((pc : Int) + Op.lookupswitch.offset sps.toList dd x.toInt).toNat) hx hb hdg ?_ rfl (by omega) fin
      exact hsrt
    · exact fx_nos h
  case invokestatic idx =>
    simp [rk_len] at hlen; subst hlen
    change (match rk_lk M.2.2.1 idx with
      | some q => fx_st q.1 q.2.1 (pc + 3)
      | none => fx_none) lc stk mem = some zz at h
    cases hlk1 : rk_lk M.2.2.1 idx with
    | none => rw [hlk1] at h; exact fx_nos h
    | some q =>
      rw [hlk1] at h
      obtain ⟨kd, f, k⟩ := q
      have hr := hlk _ (rk_lk_mem hlk1)
      have hsum : ∀ r : List Value, Nat.ble (fx_sum r) 8 = true → ((r.map (fx_v ps)).map fun v => v.category).sum ≤ 8 := fun r hr9 => by
        have := Nat.le_of_ble_eq_true hr9
        rw [List.map_map]
        have e9 : ((fun v : Value => v.category) ∘ fx_v ps) = (fun v : Value => v.category) := funext (fun v => fx_v_cat ps v)
        rw [e9]
        exact this
      change fx_st kd f (pc + 3) lc stk mem = some zz at h
      unfold fx_st at h
      cases e14 : Nat.beq kd 14 with
      | true =>
        rw [e14] at h
        obtain rfl := Nat.eq_of_beq_eq_true e14
        change fx_mx _ (pc + 3) lc stk mem = some zz at h
        unfold fx_mx at h
        split at h
        · next y x r =>
          obtain ⟨hc, rfl⟩ := fx_if_inv h
          obtain ⟨w1, w2, w3, w4⟩ := hr
          have hs8 := hsum r hc
          exact va_mmax hx hb (by rw [hml]; exact hl.1.symm) hown (hts _ w1) (hts _ w2) (hts _ w3) (hts _ w4) hfr (by omega) (Nat.zero_le _) (Nat.zero_le _) hdg (kk H locs ls hO hP hD hS hl)
        · exact fx_nos h
      | false =>
        rw [e14] at h
        dsimp only [cond] at h
        cases e15 : Nat.beq kd 15 with
        | true =>
          rw [e15] at h
          obtain rfl := Nat.eq_of_beq_eq_true e15
          change fx_mx _ (pc + 3) lc stk mem = some zz at h
          unfold fx_mx at h
          split at h
          · next y x r =>
            obtain ⟨hc, rfl⟩ := fx_if_inv h
            obtain ⟨w1, w2, w3, w4⟩ := hr
            have hs8 := hsum r hc
            exact va_mmin hx hb (by rw [hml]; exact hl.1.symm) hown (hts _ w1) (hts _ w2) (hts _ w3) (hts _ w4) hfr (by omega) (Nat.zero_le _) (Nat.zero_le _) hdg (kk H locs ls hO hP hD hS hl)
          · exact fx_nos h
        | false =>
          rw [e15] at h
          dsimp only [cond] at h
          cases e17 : Nat.beq kd 17 with
          | true =>
            rw [e17] at h
            obtain rfl := Nat.eq_of_beq_eq_true e17
            change fx_ab (pc + 3) lc stk mem = some zz at h
            unfold fx_ab at h
            split at h
            · next x r =>
              obtain ⟨hc, rfl⟩ := fx_if_inv h
              obtain ⟨w1, w2, w3, w4⟩ := hr
              have hs8 := hsum r hc
              exact va_mabs hx hb (by rw [hml]; exact hl.1.symm) hown (hts _ w1) (hts _ w2) (hts _ w3) (hts _ w4) hfr (by omega) (Nat.zero_le _) (Nat.zero_le _) hdg (kk H locs ls hO hP hD hS hl)
            · exact fx_nos h
          | false => rw [e17] at h; exact fx_nos h
  case bipush v9 =>
    change fx_pl M.2.1 pc (.bipush v9) lc stk mem = some zz at h
    unfold fx_pl at h
    split at h
    · next z9 hz9 =>
      obtain rfl := Option.some.inj h
      exact fx_pure_ok ps hx hb hdg hlen hz9 hl (fun ls' hl' => kk H locs ls' hO hP hD hS hl')
    · exact fx_nos h
  case iconst v9 =>
    change fx_pl M.2.1 pc (.iconst v9) lc stk mem = some zz at h
    unfold fx_pl at h
    split at h
    · next z9 hz9 =>
      obtain rfl := Option.some.inj h
      exact fx_pure_ok ps hx hb hdg hlen hz9 hl (fun ls' hl' => kk H locs ls' hO hP hD hS hl')
    · exact fx_nos h
  case lconst v9 =>
    change fx_pl M.2.1 pc (.lconst v9) lc stk mem = some zz at h
    unfold fx_pl at h
    split at h
    · next z9 hz9 =>
      obtain rfl := Option.some.inj h
      exact fx_pure_ok ps hx hb hdg hlen hz9 hl (fun ls' hl' => kk H locs ls' hO hP hD hS hl')
    · exact fx_nos h
  case sipush v9 =>
    change fx_pl M.2.1 pc (.sipush v9) lc stk mem = some zz at h
    unfold fx_pl at h
    split at h
    · next z9 hz9 =>
      obtain rfl := Option.some.inj h
      exact fx_pure_ok ps hx hb hdg hlen hz9 hl (fun ls' hl' => kk H locs ls' hO hP hD hS hl')
    · exact fx_nos h
  all_goals
    (first
      | exact fx_nos (show (none : fx_R4) = some zz from h)
      | (change fx_pl M.2.1 pc _ lc stk mem = some zz at h
         unfold fx_pl at h
         split at h
         · next z9 hz9 =>
           obtain rfl := Option.some.inj h
           exact fx_pure_ok ps hx hb hdg hlen hz9 hl (fun ls' hl' => kk H locs ls' hO hP hD hS hl')
         · exact fx_nos h))
end FXM
end MH40_7
