/-! ===== tk: switches, constants ===== -/
def tk_lk (pc : Nat) (a : tk_V) (mk : Nat → tk_W → Nat × tk_S) (dflt : Int) : List (Int × Int) → List tk_W → Option (List (Nat × tk_S))
  | [], ws => if 0 ≤ (pc : Int) + dflt then some (ws.map (mk ((pc : Int) + dflt).toNat)) else none
  | q :: ps, ws => if 0 ≤ (pc : Int) + q.2 then (match tk_lk pc a mk dflt ps (ws.flatMap (fun w => tk_ne w a (0, 0, 0, q.1))) with
    | some l => some ((ws.flatMap (fun w => tk_eq w a (0, 0, 0, q.1))).map (mk ((pc : Int) + q.2).toNat) ++ l)
    | none => none) else none
theorem tk_lk_ok {pc : Nat} {a : tk_V} {mk : Nat → tk_W → Nat × tk_S} {dflt x : Int} {vals : List Int} (ha : tk_num vals a = some x) : ∀ (ps : List (Int × Int)) {ws : List tk_W} {w : tk_W} {res : List (Nat × tk_S)}, w ∈ ws → tk_H w vals → tk_lk pc a mk dflt ps ws = some res → 0 ≤ (pc : Int) + Op.lookupswitch.offset ps dflt x ∧ ∃ w', tk_H w' vals ∧ mk ((pc : Int) + Op.lookupswitch.offset ps dflt x).toNat w' ∈ res := by
  intro ps
  induction ps with
  | nil =>
    intro ws w res hw hH h
    unfold tk_lk at h
    split at h
    · next hd =>
      cases h
      exact ⟨hd, w, hH, List.mem_map.mpr ⟨w, hw, rfl⟩⟩
    · cases h
  | cons q ps ih =>
    intro ws w res hw hH h
    obtain ⟨v, o⟩ := q
    unfold tk_lk at h
    rw [Op.lookupswitch.offset_cons]
    split at h
    · next hd =>
      split at h
      · next l2 hl2 =>
        cases h
        by_cases e : v = x
        · rw [if_pos e]
          obtain ⟨w', h1, h2⟩ := tk_eq_ok (b := (0, 0, 0, v)) hH ha (show tk_num vals (0, 0, 0, v) = some v from rfl) e.symm
          exact ⟨hd, w', h2, List.mem_append_left _ (List.mem_map.mpr ⟨w', List.mem_flatMap.mpr ⟨w, hw, h1⟩, rfl⟩)⟩
        · rw [if_neg e]
          obtain ⟨w', h1, h2⟩ := tk_ne_ok (b := (0, 0, 0, v)) hH ha (show tk_num vals (0, 0, 0, v) = some v from rfl) (fun z => e z.symm)
          obtain ⟨g1, w2, g2, g3⟩ := ih (List.mem_flatMap.mpr ⟨w, hw, h1⟩) h2 hl2
          exact ⟨g1, w2, g2, List.mem_append_right _ g3⟩
      · cases h
    · cases h
def tk_tp : Int → List Int → List (Int × Int)
  | _, [] => []
  | v, o :: r => (v, o) :: tk_tp (v + 1) r
theorem tk_tp_ok (d x : Int) : ∀ (offs : List Int) (v : Int), ((x < v ∨ v + (offs.length : Int) ≤ x) ∧ Op.lookupswitch.offset (tk_tp v offs) d x = d) ∨ (∃ i : Nat, x = v + (i : Int) ∧ offs[i]? = some (Op.lookupswitch.offset (tk_tp v offs) d x)) := by
  intro offs
  induction offs with
  | nil => intro v; exact Or.inl ⟨by simp; omega, rfl⟩
  | cons o r ih =>
    intro v
    show ((x < v ∨ v + ((o :: r).length : Int) ≤ x) ∧ Op.lookupswitch.offset ((v, o) :: tk_tp (v + 1) r) d x = d) ∨ _
    show ((x < v ∨ v + ((o :: r).length : Int) ≤ x) ∧ Op.lookupswitch.offset ((v, o) :: tk_tp (v + 1) r) d x = d) ∨ (∃ i : Nat, x = v + (i : Int) ∧ (o :: r)[i]? = some (Op.lookupswitch.offset ((v, o) :: tk_tp (v + 1) r) d x))
    rw [Op.lookupswitch.offset_cons]
    by_cases e : v = x
    · rw [if_pos e]
      exact Or.inr ⟨0, by simp; omega, rfl⟩
    · rw [if_neg e]
      rcases ih (v + 1) with ⟨h1, h2⟩ | ⟨i, h1, h2⟩
      · refine Or.inl ⟨?_, h2⟩
        rw [List.length_cons]
        omega
      · exact Or.inr ⟨i + 1, by omega, by simpa using h2⟩
def tk_f_lks (pc : Nat) (dflt : Int) (ps : List (Int × Int)) : tk_Fn := fun st => match st.2.1 with
  | a :: r => if a.1 = 0 ∧ (ps.zip (ps.drop 1)).all (fun z => decide (z.1.1 < z.2.1)) = true then tk_lk pc a (fun n w => (n, (st.1, r, w, st.2.2.2))) dflt ps [st.2.2.1] else none
  | _ => none
def tk_f_tab (pc : Nat) (dflt low high : Int) (offs : List Int) : tk_Fn := fun st => match st.2.1 with
  | a :: r => if a.1 = 0 ∧ (offs.length : Int) = high - low + 1 then tk_lk pc a (fun n w => (n, (st.1, r, w, st.2.2.2))) dflt (tk_tp low offs) [st.2.2.1] else none
  | _ => none
section TKS
variable {p : Program} {l : Launch} {e : Env} {R : Room} {s : State} {m : MethodId} {args : Array Value} {below : List Frame} {meth : Method} {c : Code} {Q : State → Prop} {cc : ByteArray} {nL : Nat} {Hr : tk_Hr}
theorem tk_tab_ok (hx : p.tables.exec = Jvm.exec) (hb : c.code = cc) {pc len : Nat} {dflt low high : Int} {offs : Array Int} {st : tk_S} {res : List (Nat × tk_S)} (hdg : decode cc pc = .ok (.tableswitch dflt low high offs, len)) (h : tk_f_tab pc dflt low high offs.toList st = some res) (kk : ∀ q ∈ res, tk_St (rk_KW p l e R s m args below meth c Q) nL Hr q.1 q.2) : tk_St (rk_KW p l e R s m args below meth c Q) nL Hr pc st := by
  obtain ⟨lo, sk, w, rest⟩ := st
  intro vals rads H locs ls stk lc hH hR hl hL hS
  dsimp only at hH hR hL hS
  unfold tk_f_tab at h
  split at h
  · next a r e1 =>
    dsimp only at e1
    subst e1
    split at h
    · next hk =>
      obtain ⟨va, k1, rfl, ga, hS1⟩ := hS.cons
      obtain ⟨x, rfl, hx1⟩ := tk_g0 ga hk.1
      obtain ⟨g1, w', g2, g3⟩ := tk_lk_ok hx1 (tk_tp low offs.toList) (List.mem_singleton.mpr rfl) hH h
      have fin := kk _ g3 vals rads H locs ls _ lc g2 hR hl hL hS1
      have hlen := hk.2
      rcases tk_tp_ok dflt x.toInt offs.toList low with ⟨h1, h2⟩ | ⟨i, h1, h2⟩
      · rw [h2] at fin g1
        exact lv_tableOut (tgt := ((pc : Int) + dflt).toNat) hx hb hdg (by omega) (by omega) fin
      · have hi : i < offs.toList.length := (List.getElem?_eq_some_iff.mp h2).1
        refine lv_tableIn (off := Op.lookupswitch.offset (tk_tp low offs.toList) dflt x.toInt) (tgt := ((pc : Int) + Op.lookupswitch.offset (tk_tp low offs.toList) dflt x.toInt).toNat) hx hb hdg (by omega) (by omega) ?_ (by omega) fin
        rw [show (x.toInt - low).toNat = i from by omega]
        rw [Array.getElem?_toList] at h2
        exact h2
    · cases h
  · cases h
theorem tk_lks_ok (hx : p.tables.exec = Jvm.exec) (hb : c.code = cc) {pc len : Nat} {dflt : Int} {ps : Array (Int × Int)} {st : tk_S} {res : List (Nat × tk_S)} (hdg : decode cc pc = .ok (.lookupswitch dflt ps, len)) (h : tk_f_lks pc dflt ps.toList st = some res) (kk : ∀ q ∈ res, tk_St (rk_KW p l e R s m args below meth c Q) nL Hr q.1 q.2) : tk_St (rk_KW p l e R s m args below meth c Q) nL Hr pc st := by
  obtain ⟨lo, sk, w, rest⟩ := st
  intro vals rads H locs ls stk lc hH hR hl hL hS
  dsimp only at hH hR hL hS
  unfold tk_f_lks at h
  split at h
  · next a r e1 =>
    dsimp only at e1
    subst e1
    split at h
    · next hk =>
      obtain ⟨va, k1, rfl, ga, hS1⟩ := hS.cons
      obtain ⟨x, rfl, hx1⟩ := tk_g0 ga hk.1
      obtain ⟨g1, w', g2, g3⟩ := tk_lk_ok hx1 ps.toList (List.mem_singleton.mpr rfl) hH h
      have fin := kk _ g3 vals rads H locs ls _ lc g2 hR hl hL hS1
      refine lv_lookup (tgt := ((pc : Int) + Op.lookupswitch.offset ps.toList dflt x.toInt).toNat) hx hb hdg ?_ rfl (by omega) fin
      exact hk.2
    · cases h
  · cases h
end TKS
/-- a constant -/
def tk_f_cst (pc : Nat) (v : Option Value) : tk_Fn := fun st => match v with
  | some (.int x) => some [(pc, (st.1, (0, 0, 0, x.toInt) :: st.2.1, st.2.2))]
  | some (.long x) => some [(pc, (st.1, (1, 0, 0, x.toInt) :: st.2.1, st.2.2))]
  | _ => none
