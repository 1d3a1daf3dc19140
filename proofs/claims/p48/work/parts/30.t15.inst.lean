/-! ===== tk: a state is an instance of a template: each of its symbols is a number of the state, each of its references one of the state's ===== -/
def tk_tr (sg : List tk_V) (b : tk_V) : Option tk_V := match b.2.1 with
  | 0 => some b
  | k + 1 => match sg[k]? with
    | some a => some (b.1, a.2.1, b.2.2.1 * a.2.2.1, (b.2.2.1 : Int) * a.2.2.2 + b.2.2.2)
    | none => none
theorem tk_tr_num {vals vB : List Int} {sg : List tk_V} (hs : rk_A2 (fun a x => tk_num vals a = some x) sg vB) {b a : tk_V} (h : tk_tr sg b = some a) : a.1 = b.1 ∧ ∃ x, tk_num vB b = some x ∧ tk_num vals a = some x := by
  unfold tk_tr at h
  split at h
  · next e =>
    obtain rfl := Option.some.inj h
    refine ⟨rfl, b.2.2.2, ?_, ?_⟩
    · unfold tk_num; rw [e]
    · unfold tk_num; rw [e]
  · next k e =>
    split at h
    · next a0 ha =>
      obtain rfl := Option.some.inj h
      obtain ⟨x, hx, hn⟩ := hs.get ha
      refine ⟨rfl, (b.2.2.1 : Int) * x + b.2.2.2, ?_, ?_⟩
      · unfold tk_num; rw [e]; dsimp only; rw [hx]
      · unfold tk_num at hn ⊢
        dsimp only
        split at hn
        · next e0 =>
          obtain rfl := Option.some.inj hn
          rfl
        · next k0 e0 =>
          split at hn
          · next z hz =>
            obtain rfl := Option.some.inj hn
            congr 1
            rw [Int.natCast_mul, Int.mul_add, Int.mul_assoc, Int.add_assoc]
          · cases hn
    · cases h
theorem tk_tr_some {vals vB : List Int} {sg : List tk_V} (hs : rk_A2 (fun a x => tk_num vals a = some x) sg vB) {b : tk_V} {x : Int} (h : tk_num vB b = some x) : ∃ a, tk_tr sg b = some a := by
  unfold tk_num at h
  unfold tk_tr
  split at h
  · next e => rw [e]; exact ⟨_, rfl⟩
  · next k e =>
    rw [e]
    dsimp only
    split at h
    · next z hz =>
      obtain ⟨a, ha, -⟩ := hs.getR hz
      rw [ha]
      exact ⟨_, rfl⟩
    · cases h
abbrev tk_SG : Type := List tk_V × List Nat
def tk_sg (vals : List Int) (rads : List Nat) (q : tk_SG) (vB : List Int) (rB : List Nat) : Prop := rk_A2 (fun a x => tk_num vals a = some x) q.1 vB ∧ rk_A2 (fun (r : Nat) (y : Nat) => rads[r]? = some y) q.2 rB
theorem tk_sg_grow {vals : List Int} {rads : List Nat} {q : tk_SG} {vB : List Int} {rB : List Nat} (l : List Int) (r : List Nat) (h : tk_sg vals rads q vB rB) : tk_sg (vals ++ l) (rads ++ r) q vB rB :=
  ⟨h.1.mono (fun _ _ z => tk_num_grow l z), h.2.mono (fun _ _ z => by rw [List.getElem?_append_left (List.getElem?_eq_some_iff.mp z).1]; exact z)⟩
def tk_m1 (w : tk_W) (q : tk_SG) (a b : tk_V) : Option tk_SG := cond (Nat.beq a.1 b.1) (cond (Nat.ble b.1 1) (cond (Nat.beq b.2.1 (q.1.length + 1) && (Nat.beq b.2.2.1 1 && decide (b.2.2.2 = 0))) (some (q.1 ++ [a], q.2)) (match tk_tr q.1 b with
    | some a' => cond (tk_le w.1 w.2 a' a 0 && tk_le w.1 w.2 a a' 0) (some q) none
    | none => none)) (cond (Nat.beq b.1 2) (cond (Nat.beq b.2.1 q.2.length) (some (q.1, q.2 ++ [a.2.1])) (match q.2[b.2.1]? with
    | some r => cond (Nat.beq r a.2.1) (some q) none
    | none => none)) (some q))) none
theorem tk_gnum {vals : List Int} {rads : List Nat} {a : tk_V} {v : Value} (hk : a.1 ≤ 1) (h : tk_g vals rads a v) : ∃ x, tk_num vals a = some x ∧ ∀ (vB : List Int) (rB : List Nat) (b : tk_V), b.1 = a.1 → tk_num vB b = some x → tk_g vB rB b v := by
  rcases (show a.1 = 0 ∨ a.1 = 1 by omega) with e | e
  · obtain ⟨x, rfl, hx⟩ := tk_g0 h e
    exact ⟨x.toInt, hx, fun vB rB b hb hn => tk_gi (hb.trans e) hn⟩
  · obtain ⟨x, rfl, hx⟩ := tk_g1 h e
    exact ⟨x.toInt, hx, fun vB rB b hb hn => tk_gl (hb.trans e) hn⟩
theorem tk_m1_ok {w : tk_W} {vals : List Int} {rads : List Nat} {q q' : tk_SG} {vB : List Int} {rB : List Nat} {a b : tk_V} {v : Value} (hH : tk_H w vals) (hq : tk_sg vals rads q vB rB) (hg : tk_g vals rads a v) (h : tk_m1 w q a b = some q') : ∃ l r, tk_sg vals rads q' (vB ++ l) (rB ++ r) ∧ tk_g (vB ++ l) (rB ++ r) b v := by
  unfold tk_m1 at h
  cases h1 : Nat.beq a.1 b.1 with
  | false => rw [h1] at h; cases h
  | true =>
    rw [h1] at h
    have e1 : a.1 = b.1 := Nat.eq_of_beq_eq_true h1
    cases h2 : Nat.ble b.1 1 with
    | true =>
      rw [h2] at h
      have e2 : b.1 ≤ 1 := Nat.le_of_ble_eq_true h2
      obtain ⟨x, hx, hB⟩ := tk_gnum (by omega) hg
      cases h3 : (Nat.beq b.2.1 (q.1.length + 1) && (Nat.beq b.2.2.1 1 && decide (b.2.2.2 = 0))) with
      | true =>
        rw [h3] at h
        obtain rfl := Option.some.inj h
        rw [Bool.and_eq_true, Bool.and_eq_true] at h3
        have c1 := Nat.eq_of_beq_eq_true h3.1
        have c2 := Nat.eq_of_beq_eq_true h3.2.1
        have c3 := of_decide_eq_true h3.2.2
        refine ⟨[x], [], ⟨rk_A2.push hq.1 hx, by rw [List.append_nil]; exact hq.2⟩, hB _ _ b e1.symm ?_⟩
        unfold tk_num
        rw [c1]
        dsimp only
        rw [hq.1.len, List.getElem?_append_right (Nat.le_refl _), Nat.sub_self, c2, c3]
        show some (((1 : Nat) : Int) * x + 0) = some x
        congr 1
        omega
      | false =>
        rw [h3] at h
        dsimp only [cond] at h
        split at h
        · next a' ha =>
          cases h4 : (tk_le w.1 w.2 a' a 0 && tk_le w.1 w.2 a a' 0) with
          | false => rw [h4] at h; cases h
          | true =>
            rw [h4] at h
            obtain rfl := Option.some.inj h
            rw [Bool.and_eq_true] at h4
            obtain ⟨k1, y, hy, hy'⟩ := tk_tr_num hq.1 ha
            have l1 := tk_le_ok hH.1 hH.2 hy' hx h4.1
            have l2 := tk_le_ok hH.1 hH.2 hx hy' h4.2
            have : y = x := by omega
            subst this
            exact ⟨[], [], by rw [List.append_nil, List.append_nil]; exact hq, by rw [List.append_nil, List.append_nil]; exact hB _ _ b e1.symm hy⟩
        · cases h
    | false =>
      rw [h2] at h
      have e2 : ¬ b.1 ≤ 1 := fun z => by rw [Nat.ble_eq_true_of_le z] at h2; cases h2
      cases h3 : Nat.beq b.1 2 with
      | true =>
        rw [h3] at h
        have e3 : b.1 = 2 := Nat.eq_of_beq_eq_true h3
        obtain ⟨y, hy, rfl⟩ := tk_g2 hg (e1.trans e3)
        cases h4 : Nat.beq b.2.1 q.2.length with
        | true =>
          rw [h4] at h
          obtain rfl := Option.some.inj h
          refine ⟨[], [y], ⟨by rw [List.append_nil]; exact hq.1, rk_A2.push hq.2 hy⟩, ?_⟩
          unfold tk_g
          rw [e3]
          refine ⟨y, ?_, rfl⟩
          rw [Nat.eq_of_beq_eq_true h4, hq.2.len, List.getElem?_append_right (Nat.le_refl _), Nat.sub_self]
          rfl
        | false =>
          rw [h4] at h
          dsimp only [cond] at h
          split at h
          · next r hr =>
            cases h5 : Nat.beq r a.2.1 with
            | false => rw [h5] at h; cases h
            | true =>
              rw [h5] at h
              obtain rfl := Option.some.inj h
              obtain ⟨y', hy', hrd⟩ := hq.2.get hr
              rw [Nat.eq_of_beq_eq_true h5, hy] at hrd
              obtain rfl := Option.some.inj hrd
              refine ⟨[], [], by rw [List.append_nil, List.append_nil]; exact hq, ?_⟩
              rw [List.append_nil, List.append_nil]
              unfold tk_g
              rw [e3]
              exact ⟨y, hy', rfl⟩
          · cases h
      | false =>
        rw [h3] at h
        obtain rfl := Option.some.inj h
        have e3 : ¬ b.1 = 2 := fun z => by rw [z] at h3; cases h3
        refine ⟨[], [], by rw [List.append_nil, List.append_nil]; exact hq, ?_⟩
        rw [List.append_nil, List.append_nil]
        have hv : v = .null := by
          unfold tk_g at hg
          split at hg
          · next e => omega
          · next e => omega
          · next e => omega
          · exact hg
        unfold tk_g
        split
        · next e => omega
        · next e => omega
        · next e => omega
        · exact hv
def tk_ms (w : tk_W) : tk_SG → List tk_V → List tk_V → Option tk_SG
  | q, [], [] => some q
  | q, a :: as, b :: bs => match tk_m1 w q a b with
    | some q' => tk_ms w q' as bs
    | none => none
  | _, _, _ => none
theorem tk_ms_ok {w : tk_W} {vals : List Int} {rads : List Nat} (hH : tk_H w vals) : ∀ {as bs : List tk_V} {av : List Value} {q q' : tk_SG} {vB : List Int} {rB : List Nat}, tk_sg vals rads q vB rB → rk_A2 (tk_g vals rads) as av → tk_ms w q as bs = some q' → ∃ l r, tk_sg vals rads q' (vB ++ l) (rB ++ r) ∧ rk_A2 (tk_g (vB ++ l) (rB ++ r)) bs av := by
  intro as
  induction as with
  | nil =>
    intro bs av q q' vB rB hq ha h
    cases bs with
    | nil =>
      obtain rfl := Option.some.inj h
      rw [ha.nil]
      exact ⟨[], [], by rw [List.append_nil, List.append_nil]; exact hq, trivial⟩
    | cons b bs => cases h
  | cons a as ih =>
    intro bs av q q' vB rB hq ha h
    cases bs with
    | nil => cases h
    | cons b bs =>
      obtain ⟨v, av, rfl, hg, ha⟩ := ha.cons
      unfold tk_ms at h
      split at h
      · next q1 h1 =>
        obtain ⟨l1, r1, g1, g2⟩ := tk_m1_ok hH hq hg h1
        obtain ⟨l2, r2, g3, g4⟩ := ih g1 ha h
        rw [List.append_assoc, List.append_assoc] at g3 g4
        refine ⟨l1 ++ l2, r1 ++ r2, g3, ?_, g4⟩
        rw [← List.append_assoc, ← List.append_assoc]
        exact tk_g_grow l2 r2 g2
      · cases h
def tk_mlo (w : tk_W) (lo : List (Nat × tk_V)) : tk_SG → List (Nat × tk_V) → Option tk_SG
  | q, [] => some q
  | q, b :: bs => match tk_ld lo b.1 with
    | some a => (match tk_m1 w q a b.2 with
      | some q' => tk_mlo w lo q' bs
      | none => none)
    | none => none
theorem tk_mlo_ok {w : tk_W} {vals : List Int} {rads : List Nat} (hH : tk_H w vals) {lo : List (Nat × tk_V)} {lc : List (Nat × Value)} (hL : tk_Lo vals rads lo lc) : ∀ {bs : List (Nat × tk_V)} {q q' : tk_SG} {vB : List Int} {rB : List Nat}, tk_sg vals rads q vB rB → tk_mlo w lo q bs = some q' → ∃ l r lcB, tk_sg vals rads q' (vB ++ l) (rB ++ r) ∧ tk_Lo (vB ++ l) (rB ++ r) bs lcB ∧ ∀ z ∈ lcB, z ∈ lc := by
  intro bs
  induction bs with
  | nil =>
    intro q q' vB rB hq h
    obtain rfl := Option.some.inj h
    exact ⟨[], [], [], by rw [List.append_nil, List.append_nil]; exact hq, trivial, fun _ z => absurd z List.not_mem_nil⟩
  | cons b bs ih =>
    intro q q' vB rB hq h
    unfold tk_mlo at h
    split at h
    · next a ha =>
      obtain ⟨v, hv, hg⟩ := tk_ld_ok hL ha
      split at h
      · next q1 h1 =>
        obtain ⟨l1, r1, g1, g2⟩ := tk_m1_ok hH hq hg h1
        obtain ⟨l2, r2, lcB, g3, g4, g5⟩ := ih g1 h
        rw [List.append_assoc, List.append_assoc] at g3 g4
        refine ⟨l1 ++ l2, r1 ++ r2, (b.1, v) :: lcB, g3, ⟨⟨rfl, ?_⟩, g4⟩, fun z hz => ?_⟩
        · rw [← List.append_assoc, ← List.append_assoc]
          exact tk_g_grow l2 r2 g2
        · rcases List.mem_cons.mp hz with rfl | hz
          · exact hv
          · exact g5 z hz
      · cases h
    · cases h
/-- what a place of a cell of type t may be, as a new value -/
def tk_xt (TY : tk_TT) (w : tk_W) (rf : List Nat) (t k : Nat) : Option (tk_V × tk_W × List Nat) := match TY.1[t]? with
  | some (.inl o) => (match o.2[k]? with
    | some f => tk_nw w rf f
    | none => none)
  | some (.inr q) => cond (Nat.ble q.2.1 k) none (match tk_fi (tk_ky k) q.2.2 with
    | some f => tk_nx TY.2.1 w rf (tk_ky k) f
    | none => none)
  | none => none
/-- facts: one that isn't known is what its type says -/
def tk_mf (TY : tk_TT) : tk_SG → tk_W → List Nat → tk_FA → tk_FA → Option (tk_SG × tk_W × List Nat × tk_FA)
  | q, w, rf, fa, [] => some (q, w, rf, fa)
  | q, w, rf, fa, b :: bs => match q.2[b.1]?, tk_tr q.1 b.2.1 with
    | some r, some kx => (match tk_fl fa r kx with
      | some a => (match tk_m1 w q a b.2.2 with
        | some q' => tk_mf TY q' w rf fa bs
        | none => none)
      | none => (match rf[r]? with
        | some t => cond (tk_kq b.2.1 (tk_ky b.2.1.2.2.2.toNat)) (match tk_xt TY w rf t b.2.1.2.2.2.toNat with
          | some x => (match tk_m1 x.2.1 q x.1 b.2.2 with
            | some q' => tk_mf TY q' x.2.1 x.2.2 ((r, tk_ky b.2.1.2.2.2.toNat, x.1) :: fa) bs
            | none => none)
          | none => none) none
        | none => none))
    | _, _ => none
section TKI
variable {TY : tk_TT} {ro : Nat → Nat → Int → Prop} {X : va_W → Prop} {ads tw : List Nat} {s : State} {ws : va_W}
theorem tk_xt_ok (hob : tk_ob TY ro ads tw ws) {w : tk_W} {rf : List Nat} {t k y : Nat} {x : tk_V × tk_W × List Nat} {vals : List Int} {rads : List Nat} (hH : tk_H w vals) (h3 : rk_A2 (fun t y => tk_ty ads tw t y) rf rads) (hty : tk_ty ads tw t y) (h : tk_xt TY w rf t k = some x) : ∃ (j : Nat) (e : va_E) (v : Value) (l : List Int) (r : List Nat), ws[j]? = some (y, e) ∧ tk_pos e k = some v ∧ tk_H x.2.1 (vals ++ l) ∧ rk_A2 (fun t y => tk_ty ads tw t y) x.2.2 (rads ++ r) ∧ tk_g (vals ++ l) (rads ++ r) x.1 v := by
  obtain ⟨j, e, hw, hob⟩ := hob t y hty
  unfold tk_xt at h
  split at h
  · next o hT =>
    rw [hT] at hob
    obtain ⟨vs, rfl, hvl, hvs⟩ := hob
    split at h
    · next f hf =>
      have hkl : k < vs.length := by rw [hvl]; exact (List.getElem?_eq_some_iff.mp hf).1
      have hv : vs[k]? = some vs[k] := List.getElem?_eq_getElem hkl
      obtain ⟨l, r, p1, p2, p3⟩ := tk_nw_ok hH h3 (hvs k f _ hf hv) h
      exact ⟨j, _, _, l, r, hw, hv, p1, p2, p3⟩
    · cases h
  · next q hT =>
    rw [hT] at hob
    obtain ⟨cA, z, rfl, hz, hel⟩ := hob
    cases hb : Nat.ble q.2.1 k with
    | true => rw [hb] at h; cases h
    | false =>
      rw [hb] at h
      have hkl : k < q.2.1 := Nat.not_le.mp (fun u => by rw [Nat.ble_eq_true_of_le u] at hb; cases hb)
      dsimp only [cond] at h
      split at h
      · next f hf =>
        have hky : tk_num vals (tk_ky k) = some (k : Int) := rfl
        obtain ⟨l, r, p1, p2, p3⟩ := tk_nx_ok hH h3 hky (tk_fi_ok hky (hel k hkl) hf) h
        refine ⟨j, _, _, l, r, hw, ?_, p1, p2, p3⟩
        show (if k < z.1 then some (tk_el z k) else none) = _
        rw [if_pos (by rw [hz]; exact hkl)]
      · cases h
  · cases h
theorem tk_mf_ok (hob : tk_ob TY ro ads tw ws) : ∀ {bs : tk_FA} {q : tk_SG} {w : tk_W} {rf : List Nat} {fa : tk_FA} {x : tk_SG × tk_W × List Nat × tk_FA} {vals : List Int} {rads : List Nat} {vB : List Int} {rB : List Nat}, tk_H w vals → rk_A2 (fun t y => tk_ty ads tw t y) rf rads → (∀ z ∈ fa, tk_fk vals rads ws z) → tk_sg vals rads q vB rB → tk_mf TY q w rf fa bs = some x → ∃ (l : List Int) (r : List Nat) (lB : List Int) (rB' : List Nat), tk_H x.2.1 (vals ++ l) ∧ rk_A2 (fun t y => tk_ty ads tw t y) x.2.2.1 (rads ++ r) ∧ (∀ z ∈ x.2.2.2, tk_fk (vals ++ l) (rads ++ r) ws z) ∧ tk_sg (vals ++ l) (rads ++ r) x.1 (vB ++ lB) (rB ++ rB') ∧ ∀ z ∈ bs, tk_fk (vB ++ lB) (rB ++ rB') ws z := by
  intro bs
  induction bs with
  | nil =>
    intro q w rf fa x vals rads vB rB hH h3 h9 hq h
    obtain rfl := Option.some.inj h
    refine ⟨[], [], [], [], ?_⟩
    simp only [List.append_nil]
    exact ⟨hH, h3, h9, hq, fun _ z => absurd z List.not_mem_nil⟩
  | cons b bs ih =>
    intro q w rf fa x vals rads vB rB hH h3 h9 hq h
    unfold tk_mf at h
    split at h
    · next r kx hr hkx =>
      obtain ⟨yB, hyB, hyr⟩ := hq.2.get hr
      obtain ⟨-, kz, hkB, hkv⟩ := tk_tr_num hq.1 hkx
      split at h
      · next a ha =>
        split at h
        · next q1 h1 =>
          obtain ⟨k', hk', hm⟩ := tk_fl_mem ha
          obtain ⟨y, j, i, e, v, g1, g2, g3, g4, g5⟩ := h9 _ hm
          dsimp only at g1 g2
          rw [tk_kq_ok hk', hkv] at g2
          obtain ⟨l1, r1, k1, k2⟩ := tk_m1_ok hH hq g5 h1
          obtain ⟨l, r', lB, rB', m1, m2, m3, m4, m5⟩ := ih hH h3 h9 k1 h
          rw [List.append_assoc, List.append_assoc] at m4 m5
          refine ⟨l, r', l1 ++ lB, r1 ++ rB', m1, m2, m3, m4, fun z hz => ?_⟩
          rcases List.mem_cons.mp hz with rfl | hz
          · have hyy : y = yB := by
              have := hyr.symm.trans g1
              exact (Option.some.inj this).symm
            subst hyy
            refine ⟨y, j, i, e, v, by rw [List.getElem?_append_left (List.getElem?_eq_some_iff.mp hyB).1]; exact hyB, tk_num_grow _ (hkB.trans g2), g3, g4, ?_⟩
            rw [← List.append_assoc, ← List.append_assoc]
            exact tk_g_grow lB rB' k2
          · exact m5 z hz
        · cases h
      · split at h
        · next t ht =>
          cases hkq : tk_kq b.2.1 (tk_ky b.2.1.2.2.2.toNat) with
          | false => rw [hkq] at h; cases h
          | true =>
            rw [hkq] at h
            dsimp only [cond] at h
            split at h
            · next x1 hx1 =>
              split at h
              · next q1 h1 =>
                obtain ⟨y, hy, hty⟩ := h3.get ht
                have hyy : y = yB := Option.some.inj (hy.symm.trans hyr)
                subst hyy
                obtain ⟨j, e, v, l0, r0, hw, hv, p1, p2, p3⟩ := tk_xt_ok hob hH h3 hty hx1
                obtain ⟨l1, r1, k1, k2⟩ := tk_m1_ok p1 (tk_sg_grow l0 r0 hq) p3 h1
                have h9' : ∀ z ∈ (r, tk_ky b.2.1.2.2.2.toNat, x1.1) :: fa, tk_fk (vals ++ l0) (rads ++ r0) ws z := by
                  intro z hz
                  rcases List.mem_cons.mp hz with rfl | hz
                  · exact ⟨y, j, b.2.1.2.2.2.toNat, e, v, by rw [List.getElem?_append_left (List.getElem?_eq_some_iff.mp hy).1]; exact hy, rfl, hw, hv, p3⟩
                  · exact tk_fk_grow l0 r0 (h9 z hz)
                obtain ⟨l, r', lB, rB', m1, m2, m3, m4, m5⟩ := ih p1 p2 h9' k1 h
                simp only [List.append_assoc] at m1 m2 m3 m4 m5
                refine ⟨l0 ++ l, r0 ++ r', l1 ++ lB, r1 ++ rB', m1, m2, m3, m4, fun z hz => ?_⟩
                rcases List.mem_cons.mp hz with rfl | hz
                · refine ⟨y, j, z.2.1.2.2.2.toNat, e, v, by rw [List.getElem?_append_left (List.getElem?_eq_some_iff.mp hyB).1]; exact hyB, ?_, hw, hv, ?_⟩
                  · rw [tk_kq_ok hkq]; rfl
                  · rw [← List.append_assoc, ← List.append_assoc]
                    exact tk_g_grow lB rB' k2
                · exact m5 z hz
              · cases h
            · cases h
        · cases h
    · cases h
end TKI
/-- the template's bounds, differences and types hold of what its symbols stand for -/
def tk_fitE (env : List tk_I) : List tk_V → List tk_I → Bool
  | [], [] => true
  | a :: as, I :: Is => (match tk_iv env a with
    | some J => decide (I.1 ≤ J.1) && decide (J.2 ≤ I.2)
    | none => false) && tk_fitE env as Is
  | _, _ => false
theorem tk_fitE_ok {env : List tk_I} {vals : List Int} (hE : tk_E env vals) : ∀ {sg : List tk_V} {eB : List tk_I} {vB : List Int}, rk_A2 (fun a x => tk_num vals a = some x) sg vB → tk_fitE env sg eB = true → tk_E eB vB := by
  intro sg
  induction sg with
  | nil =>
    intro eB vB h hf
    cases eB with
    | nil => rw [h.nil]; trivial
    | cons I Is => cases hf
  | cons a as ih =>
    intro eB vB h hf
    cases eB with
    | nil => cases hf
    | cons I Is =>
      obtain ⟨x, k, rfl, h1, h2⟩ := h.cons
      unfold tk_fitE at hf
      rw [Bool.and_eq_true] at hf
      obtain ⟨f1, f2⟩ := hf
      split at f1
      · next J hJ =>
        rw [Bool.and_eq_true] at f1
        have q1 := of_decide_eq_true f1.1
        have q2 := of_decide_eq_true f1.2
        have := tk_iv_ok hE h1 hJ
        exact ⟨⟨by omega, by omega⟩, ih h2 f2⟩
      · cases f1
def tk_fitC (w : tk_W) (sg : List tk_V) (cB : List tk_Q) : Bool := cB.all (fun q => match sg[q.1]?, sg[q.2.1]? with
  | some a, some b => tk_le w.1 w.2 a b (-q.2.2)
  | _, _ => false)
theorem tk_fitC_ok {w : tk_W} {vals : List Int} (hH : tk_H w vals) {sg : List tk_V} {cB : List tk_Q} {vB : List Int} (h : rk_A2 (fun a x => tk_num vals a = some x) sg vB) (hf : tk_fitC w sg cB = true) : tk_C cB vB := by
  intro q hq
  have := List.all_eq_true.mp hf q hq
  split at this
  · next a b ha hb =>
    obtain ⟨x, hx, nx⟩ := h.get ha
    obtain ⟨y, hy, ny⟩ := h.get hb
    have := tk_le_ok hH.1 hH.2 nx ny this
    exact ⟨x, y, hx, hy, by omega⟩
  · cases this
def tk_fitR (rf : List Nat) : List Nat → List Nat → Bool
  | [], [] => true
  | r :: rs, t :: ts => (match rf[r]? with
    | some u => Nat.beq u t
    | none => false) && tk_fitR rf rs ts
  | _, _ => false
theorem tk_fitR_ok {ads tw rf rads : List Nat} (h3 : rk_A2 (fun t y => tk_ty ads tw t y) rf rads) : ∀ {rs rfB rB : List Nat}, rk_A2 (fun (r : Nat) (y : Nat) => rads[r]? = some y) rs rB → tk_fitR rf rs rfB = true → rk_A2 (fun t y => tk_ty ads tw t y) rfB rB := by
  intro rs
  induction rs with
  | nil =>
    intro rfB rB h hf
    cases rfB with
    | nil => rw [h.nil]; trivial
    | cons I Is => cases hf
  | cons r rs ih =>
    intro rfB rB h hf
    cases rfB with
    | nil => cases hf
    | cons t ts =>
      obtain ⟨y, k, rfl, h1, h2⟩ := h.cons
      unfold tk_fitR at hf
      rw [Bool.and_eq_true] at hf
      obtain ⟨f1, f2⟩ := hf
      split at f1
      · next u hu =>
        have e := Nat.eq_of_beq_eq_true f1
        subst e
        obtain ⟨y', hy', hty⟩ := h3.get hu
        rw [h1] at hy'
        obtain rfl := Option.some.inj hy'
        exact ⟨hty, ih h2 f2⟩
      · cases f1
