/-! ===== groups: the calls of both ===== -/
def grC : SC := fun av g a _ _ v => ∃ (s m : Int32) (n : Nat), av = [.int s, .int m] ∧ n ≤ 8 ∧ g 26 7 = nI n ∧ ((¬ grN n s m ∧ v = .int (-1)) ∨ ∃ S, s = nI S ∧ 0 < S ∧ S < 2 ^ n ∧ grN n (nI S) m ∧ ((tooC (a 28) m S n ∧ v = .int (-1)) ∨ (¬ tooC (a 28) m S n ∧ ∃ r0 : Nat → Int32, r0 0 = nI 1000 ∧ v = .int (if 0 ≤ rwG (a 28) m n S r0 (2 ^ n - 1) S / 1000 then rwG (a 28) m n S r0 (2 ^ n - 1) S / 1000 else -1))))
def grM : SM := fun av _ a _ _ v => ∃ (s m : Int32) (n : Nat), av = [.int s, .int m] ∧ n ≤ 8 ∧ a 1 1 = nI n ∧ ((¬ grN n s m ∧ v = .int (-1)) ∨ ∃ S, s = nI S ∧ 0 < S ∧ S < 2 ^ n ∧ grN n (nI S) m ∧ ∃ m0 : Nat → Int32, v = .int (if rwM (wtm a) n m S m0 (S + 1) S < 1000000 then rwM (wtm a) n m S m0 (S + 1) S else -1))
theorem gr_wr {av : List Value} {u w : Value} {g a g' a' : Nat → Nat → Int32} {gm gm' : Nat → Int32} {am am' : Nat → Nat → Int32} (h : wrE g a gm am) (h1 : grC av g a g' a' u) (h2 : grM av gm am gm' am' w) : u = w := by
  obtain ⟨s, m, n, rfl, h8, e1, h1⟩ := h1
  obtain ⟨s2, m2, n2, e, h82, e2, h2⟩ := h2
  cases e
  obtain ⟨-, -, h4, -⟩ := h
  have e3 : g 26 7 = am 1 1 := h4.2.1
  have hn : n = n2 := by
    rw [e1, e2] at e3
    exact hf_inj (by omega) (by omega) e3
  subst hn
  have hwt : ∀ i : Nat, i < 8 → (i : Int) < (g 26 7).toInt → a 28 i = am 1 (842 * 0 + 278 + 5 * i) ∧ 1 ≤ (am 1 (842 * 0 + 278 + 5 * i)).toInt ∧ (am 1 (842 * 0 + 278 + 5 * i)).toInt ≤ 99 := h4.2.2.2.1
  obtain ⟨hp1, hp2⟩ := pw_le n h8
  rcases h1 with ⟨z1, rfl⟩ | ⟨S, rfl, S0, S1, hgr, h1⟩ <;> rcases h2 with ⟨y1, rfl⟩ | ⟨S2, e5, T0, T1, hgr2, m0, rfl⟩
  · rfl
  · subst e5
    exact absurd hgr2 z1
  · exact absurd hgr y1
  · have eS : S = S2 := hf_inj (by omega) (by omega) e5
    subst eS
    obtain ⟨wf, hm, hc⟩ := wt_both h8 e1 hwt
    obtain ⟨M, hM, rfl⟩ := nI_bd (x := m) (n := 999) (by have := hgr.2.1; omega) hgr.2.2
    have hM1 : 1 ≤ M := by
      have := hgr.2.1
      rw [nI_i32 (by omega)] at this
      omega
    rcases h1 with ⟨ht, rfl⟩ | ⟨ht, r0, hr0, rfl⟩
    · have key := (gr_eq (wc := a 28) (wt := wtm am) (wf := wf) (r0 := fun _ => nI 1000) (m0 := m0) hM1 hM h8 S0 S1 hc (fun i hi => (hm i hi).1) (fun i hi => (hm i hi).2) rfl).1 ht
      rw [if_neg key]
    · obtain ⟨k1, k2, k3⟩ := (gr_eq (wc := a 28) (wt := wtm am) (wf := wf) (r0 := r0) (m0 := m0) hM1 hM h8 S0 S1 hc (fun i hi => (hm i hi).1) (fun i hi => (hm i hi).2) hr0).2 ht
      rw [if_pos k1, if_pos k2, k3]
section GRQ
variable {l : Launch} {D : va_G} {xt : tk_XT} {ads : List Nat}
theorem grC_sem (hxt : tk_xtok xt) {W : List (Nat × Nat)} (hK : KC l D xt ads 174 [0, 0] [gn_i, gn_i] W) : lw_sem l D xt gc_TY h3_X ads lw_twC 20 174 [0, 0] [gn_i, gn_i] (QC W grC) := by
  refine cx_sem (S := grC) (k := 3) hxt (by decide) hK (fun rest g l' a b R hr hin => ?_)
  obtain ⟨s, m, rfl⟩ := av2 hr
  obtain ⟨n, h8, en⟩ := nI_bd (x := g 26 7) (n := 8) hin.1.2.2.2.1 hin.1.2.2.2.2
  by_cases h : grN n s m
  · obtain ⟨S, rfl, S0, S1⟩ := set_in h8 h.1
    by_cases ht : tooC (a 28) m S n
    · exact ⟨.int (-1), _, l', a, b, Nat.zero_le 1, hg_grp6 en h8 h ht, nI S, m, n, rfl, h8, en, Or.inr ⟨S, rfl, S0, S1, h, Or.inl ⟨ht, rfl⟩⟩⟩
    · obtain ⟨g', a', hrun⟩ := hg_grpT (g := g) (l := l') (a := a) (b := b) (R := R) en h8 S1 h ht
      exact ⟨.int _, g', l', a', b, Nat.zero_le 1, hrun, nI S, m, n, rfl, h8, en, Or.inr ⟨S, rfl, S0, S1, h, Or.inr ⟨ht, upd (a 72) 0 1000, pk_us, rfl⟩⟩⟩
  · exact ⟨.int (-1), _, l', a, b, Nat.zero_le 1, hg_grpF en h8 h, s, m, n, rfl, h8, en, Or.inl ⟨h, rfl⟩⟩
theorem grM_sem (hst : HS xt) : lw_sem l D xt gn_TY (gn_X lw_twM) ads lw_twM 11 343 [0, 0] [gn_i, gn_i] (fun av ws ws' v => QM grM av ws ws' v ∧ ∀ z ∈ mw_W, lw_at ws' z = lw_at ws z) := by
  refine lw_sem_imp (mx_sem (S := fun av g a g' a' v => grM av g a g' a' v ∧ g' 10 = g 10 ∧ g' 42 = g 42 ∧ a' 6 = a 6 ∧ a' 1 = a 1) (k := 7) (n := 2) hst gn_M0_ms (fun g tp bt a b xs hx hI => ?_)) ?_
  · obtain ⟨s, xs0, rfl, hx0⟩ := fm_xsS hx
    obtain ⟨m, xs1, rfl, hx1⟩ := fm_xsS hx0
    obtain rfl := List.length_eq_zero_iff.mp hx1
    obtain ⟨n, h8, en⟩ := fm_B_0 hI.2.1 (i := 1) (n := 8) (by decide) rfl
    obtain ⟨hp1, hp2⟩ := pw_le n h8
    have hG : ∀ st : Int32, ∀ k, (0, k) ∈ gn_M0 ∨ upd g 2 st k = g k := fun st k => by
      by_cases e : k = 2
      · subst e; exact Or.inl (List.mem_append_right _ (by decide))
      · exact Or.inr (pk_un e)
    by_cases h : grN n s m
    · obtain ⟨S, rfl, S0, S1⟩ := set_in h8 h.1
      have hr0 : rBD (a 14) := fun i hi => hI.2.2 (14, 256, 0, 1000000) (by decide) i hi
      have hbd := rwM_bd (wt := wtm a) (n := n) (S := S) (most := m) hr0 (S + 1) (by omega)
      have hrun := mg_grpT (g := g) (tp := tp) (bt := bt) (a := a) (b := b) (most := m) en h8 S1 h
      generalize hr : rwM (wtm a) n m S (a 14) (S + 1) = r at hbd hrun
      have e2 : 0 ≤ (if r S < 1000000 then (0 : Int32) else 6).toInt ∧ (if r S < 1000000 then (0 : Int32) else 6).toInt ≤ 9 := by
        by_cases hc : r S < 1000000
        · rw [if_pos hc]; decide
        · rw [if_neg hc]; decide
      have e3 : ∀ t, t ≠ 14 → fm_ur a 14 r t = a t := fun t ht => by
        unfold fm_ur
        rw [if_neg ht]
      refine ⟨_, _, tp, bt, fm_ur a 14 r, b, hrun, fm_I_14 (fm_I_u2 hI e2) hbd, ⟨hG _, fun t ht => ?_, fun t => Or.inr rfl⟩, ⟨nI S, m, n, rfl, h8, en, Or.inr ⟨S, rfl, S0, S1, h, a 14, by rw [hr]⟩⟩, pk_un (by decide), pk_un (by decide), e3 6 (by decide), e3 1 (by decide)⟩
      by_cases h5 : t = 14
      · subst h5; exact Or.inl (List.mem_append_right _ (by decide))
      · exact Or.inr (e3 t h5)
    · exact ⟨-1, upd g 2 1, tp, bt, a, b, mg_grpF en h8 h, fm_I_u2 hI (by decide), ⟨hG 1, fun t ht => Or.inr rfl, fun t => Or.inr rfl⟩, ⟨s, m, n, rfl, h8, en, Or.inl ⟨h, rfl⟩⟩, pk_un (by decide), pk_un (by decide), rfl, rfl⟩
  · rintro av ws ws' v - ⟨hv, g, a, g', a', h1, h2, h3, h4, q1, q2, q3, q4⟩
    exact ⟨⟨hv, g, a, g', a', h1, h2, h3, h4⟩, mw_unW h1 (mw_eqV h2 q1 q2 q3 (fun _ _ => congrFun q4 _))⟩
end GRQ
